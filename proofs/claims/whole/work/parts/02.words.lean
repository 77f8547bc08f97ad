set_option maxRecDepth 100000 in
theorem wd_0 : (Jvm.Cond.initialized "ExpenseClubsLaw") ∈ lw_tbl := List.mem_of_getElem? (i := 24) rfl
set_option maxRecDepth 100000 in
theorem wd_1 : (Jvm.Cond.initialized "ExpenseClubs") ∈ lw_tbl := List.mem_of_getElem? (i := 25) rfl
set_option maxRecDepth 100000 in
theorem wd_2 : (Jvm.Cond.initialized "ExpenseClubs$Draft") ∈ lw_tbl := List.mem_of_getElem? (i := 26) rfl
set_option maxRecDepth 100000 in
theorem wd_3 : (Jvm.Cond.initialized "ExpenseClubs$Grouping") ∈ lw_tbl := List.mem_of_getElem? (i := 27) rfl
set_option maxRecDepth 100000 in
theorem wd_4 : (Jvm.Cond.initialized "ExpenseClubsModel") ∈ lw_tbl := List.mem_of_getElem? (i := 28) rfl
set_option maxRecDepth 100000 in
theorem wd_5 : (Jvm.Cond.initialized "ExpenseClubs$Club") ∈ lw_tbl := List.mem_of_getElem? (i := 29) rfl
set_option maxRecDepth 100000 in
theorem wd_6 : (Jvm.Cond.initialized "ExpenseClubs$Settlement") ∈ lw_tbl := List.mem_of_getElem? (i := 30) rfl
set_option maxRecDepth 100000 in
theorem wd_7 : (Jvm.Cond.initialized "java/lang/Integer") ∈ lw_tbl := List.mem_of_getElem? (i := 31) rfl
set_option maxRecDepth 100000 in
theorem wd_8 : (Jvm.Cond.initialized "ExpenseClubs$Bill") ∈ lw_tbl := List.mem_of_getElem? (i := 32) rfl
set_option maxRecDepth 100000 in
theorem wd_9 : (Jvm.Cond.initialized "java/lang/Math") ∈ lw_tbl := List.mem_of_getElem? (i := 33) rfl
set_option maxRecDepth 100000 in
theorem wd_10 : (Jvm.Cond.initialized "java/lang/Throwable") ∈ lw_tbl := List.mem_of_getElem? (i := 34) rfl
set_option maxRecDepth 100000 in
theorem wd_11 : (Jvm.Cond.initialized "java/lang/Exception") ∈ lw_tbl := List.mem_of_getElem? (i := 35) rfl
set_option maxRecDepth 100000 in
theorem wd_12 : (Jvm.Cond.initialized "java/lang/RuntimeException") ∈ lw_tbl := List.mem_of_getElem? (i := 36) rfl
set_option maxRecDepth 100000 in
theorem wd_13 : (Jvm.Cond.initialized "java/lang/IndexOutOfBoundsException") ∈ lw_tbl := List.mem_of_getElem? (i := 37) rfl
set_option maxRecDepth 100000 in
theorem wd_14 : (Jvm.Cond.initialized "java/lang/IllegalArgumentException") ∈ lw_tbl := List.mem_of_getElem? (i := 38) rfl
set_option maxRecDepth 100000 in
theorem wd_15 : (Jvm.Cond.classLink "ExpenseClubsLaw" (8 : Nat) "ExpenseClubs") ∈ lw_tbl := List.mem_of_getElem? (i := 39) rfl
set_option maxRecDepth 100000 in
theorem wd_16 : (Jvm.Cond.instantiable "ExpenseClubs" (6 : Nat)) ∈ lw_tbl := List.mem_of_getElem? (i := 40) rfl
set_option maxRecDepth 100000 in
theorem wd_17 : (Jvm.Cond.methodLink "ExpenseClubsLaw" (17 : Nat) ({ cls := "ExpenseClubs", name := "<init>", desc := "()V" } : Jvm.MethodName)) ∈ lw_tbl := List.mem_of_getElem? (i := 41) rfl
set_option maxRecDepth 100000 in
theorem wd_18 : (Jvm.Cond.instanceMethod ({ cls := "ExpenseClubs", name := "<init>", desc := "()V" } : Jvm.MethodName)) ∈ lw_tbl := List.mem_of_getElem? (i := 42) rfl
set_option maxRecDepth 100000 in
theorem wd_19 : (Jvm.Cond.code ({ cls := "ExpenseClubs", name := "<init>", desc := "()V" } : Jvm.MethodName) prog_1_method_1_code (1 : Nat) (Option.none : Option Jvm.ClassFile.FieldType)) ∈ lw_tbl := List.mem_of_getElem? (i := 43) rfl
set_option maxRecDepth 100000 in
theorem wd_20 : (Jvm.Cond.methodLink "ExpenseClubs" (3 : Nat) ({ cls := "java/lang/Object", name := "<init>", desc := "()V" } : Jvm.MethodName)) ∈ lw_tbl := List.mem_of_getElem? (i := 44) rfl
set_option maxRecDepth 100000 in
theorem wd_21 : (Jvm.Cond.instanceMethod ({ cls := "java/lang/Object", name := "<init>", desc := "()V" } : Jvm.MethodName)) ∈ lw_tbl := List.mem_of_getElem? (i := 45) rfl
set_option maxRecDepth 100000 in
theorem wd_22 : (Jvm.Cond.code ({ cls := "java/lang/Object", name := "<init>", desc := "()V" } : Jvm.MethodName) object_method_1_code (1 : Nat) (Option.none : Option Jvm.ClassFile.FieldType)) ∈ lw_tbl := List.mem_of_getElem? (i := 46) rfl
set_option maxRecDepth 100000 in
theorem wd_23 : (Jvm.Cond.classLink "ExpenseClubs" (9 : Nat) "ExpenseClubs$Club") ∈ lw_tbl := List.mem_of_getElem? (i := 47) rfl
set_option maxRecDepth 100000 in
theorem wd_24 : (Jvm.Cond.arrayOver (Jvm.ClassFile.FieldType.object "ExpenseClubs$Club")) ∈ lw_tbl := List.mem_of_getElem? (i := 48) rfl
set_option maxRecDepth 100000 in
theorem wd_25 : (Jvm.Cond.classLink "ExpenseClubs" (15 : Nat) "ExpenseClubs$Bill") ∈ lw_tbl := List.mem_of_getElem? (i := 49) rfl
set_option maxRecDepth 100000 in
theorem wd_26 : (Jvm.Cond.arrayOver (Jvm.ClassFile.FieldType.object "ExpenseClubs$Bill")) ∈ lw_tbl := List.mem_of_getElem? (i := 50) rfl
set_option maxRecDepth 100000 in
theorem wd_27 : (Jvm.Cond.classLink "ExpenseClubs" (21 : Nat) "ExpenseClubs$Draft") ∈ lw_tbl := List.mem_of_getElem? (i := 51) rfl
set_option maxRecDepth 100000 in
theorem wd_28 : (Jvm.Cond.instantiable "ExpenseClubs$Draft" (7 : Nat)) ∈ lw_tbl := List.mem_of_getElem? (i := 52) rfl
set_option maxRecDepth 100000 in
theorem wd_29 : (Jvm.Cond.methodLinkNest "ExpenseClubs" (23 : Nat) ({ cls := "ExpenseClubs$Draft", name := "<init>", desc := "()V" } : Jvm.MethodName) "ExpenseClubs") ∈ lw_tbl := List.mem_of_getElem? (i := 53) rfl
set_option maxRecDepth 100000 in
theorem wd_30 : (Jvm.Cond.instanceMethod ({ cls := "ExpenseClubs$Draft", name := "<init>", desc := "()V" } : Jvm.MethodName)) ∈ lw_tbl := List.mem_of_getElem? (i := 54) rfl
set_option maxRecDepth 100000 in
theorem wd_31 : (Jvm.Cond.code ({ cls := "ExpenseClubs$Draft", name := "<init>", desc := "()V" } : Jvm.MethodName) prog_4_method_1_code (1 : Nat) (Option.none : Option Jvm.ClassFile.FieldType)) ∈ lw_tbl := List.mem_of_getElem? (i := 55) rfl
set_option maxRecDepth 100000 in
theorem wd_32 : (Jvm.Cond.methodLink "ExpenseClubs$Draft" (3 : Nat) ({ cls := "java/lang/Object", name := "<init>", desc := "()V" } : Jvm.MethodName)) ∈ lw_tbl := List.mem_of_getElem? (i := 56) rfl
set_option maxRecDepth 100000 in
theorem wd_33 : (Jvm.Cond.fieldLink "ExpenseClubs$Draft" (9 : Nat) "ExpenseClubs$Draft" "payers" "[J") ∈ lw_tbl := List.mem_of_getElem? (i := 57) rfl
set_option maxRecDepth 100000 in
theorem wd_34 : (Jvm.Cond.fieldLink "ExpenseClubs" (78 : Nat) "ExpenseClubs$Draft" "payers" "[J") ∈ lw_tbl := List.mem_of_getElem? (i := 58) rfl
set_option maxRecDepth 100000 in
theorem wd_35 : (Jvm.Cond.fieldLink "ExpenseClubs$Draft" (15 : Nat) "ExpenseClubs$Draft" "weights" "[J") ∈ lw_tbl := List.mem_of_getElem? (i := 59) rfl
set_option maxRecDepth 100000 in
theorem wd_36 : (Jvm.Cond.fieldLink "ExpenseClubs" (88 : Nat) "ExpenseClubs$Draft" "weights" "[J") ∈ lw_tbl := List.mem_of_getElem? (i := 60) rfl
set_option maxRecDepth 100000 in
theorem wd_37 : (Jvm.Cond.fieldLink "ExpenseClubs$Draft" (18 : Nat) "ExpenseClubs$Draft" "club" "LExpenseClubs$Club;") ∈ lw_tbl := List.mem_of_getElem? (i := 61) rfl
set_option maxRecDepth 100000 in
theorem wd_38 : (Jvm.Cond.fieldLink "ExpenseClubs" (74 : Nat) "ExpenseClubs$Draft" "club" "LExpenseClubs$Club;") ∈ lw_tbl := List.mem_of_getElem? (i := 62) rfl
set_option maxRecDepth 100000 in
theorem wd_39 : (Jvm.Cond.fieldLink "ExpenseClubs$Draft" (22 : Nat) "ExpenseClubs$Draft" "way" "I") ∈ lw_tbl := List.mem_of_getElem? (i := 63) rfl
set_option maxRecDepth 100000 in
theorem wd_40 : (Jvm.Cond.fieldLink "ExpenseClubs" (81 : Nat) "ExpenseClubs$Draft" "way" "I") ∈ lw_tbl := List.mem_of_getElem? (i := 64) rfl
set_option maxRecDepth 100000 in
theorem wd_41 : (Jvm.Cond.fieldLink "ExpenseClubs$Draft" (26 : Nat) "ExpenseClubs$Draft" "cents" "I") ∈ lw_tbl := List.mem_of_getElem? (i := 65) rfl
set_option maxRecDepth 100000 in
theorem wd_42 : (Jvm.Cond.fieldLink "ExpenseClubs$Draft" (29 : Nat) "ExpenseClubs$Draft" "rate" "I") ∈ lw_tbl := List.mem_of_getElem? (i := 66) rfl
set_option maxRecDepth 100000 in
theorem wd_43 : (Jvm.Cond.fieldLink "ExpenseClubs$Draft" (32 : Nat) "ExpenseClubs$Draft" "lineCount" "I") ∈ lw_tbl := List.mem_of_getElem? (i := 67) rfl
set_option maxRecDepth 100000 in
theorem wd_44 : (Jvm.Cond.fieldLink "ExpenseClubs" (95 : Nat) "ExpenseClubs$Draft" "lineCount" "I") ∈ lw_tbl := List.mem_of_getElem? (i := 68) rfl
set_option maxRecDepth 100000 in
theorem wd_45 : (Jvm.Cond.laysFinal "ExpenseClubs$Draft" "ExpenseClubs$Draft" "payers" "[J") ∈ lw_tbl := List.mem_of_getElem? (i := 69) rfl
set_option maxRecDepth 100000 in
theorem wd_46 : (Jvm.Cond.soleField "ExpenseClubs$Draft" "payers") ∈ lw_tbl := List.mem_of_getElem? (i := 70) rfl
set_option maxRecDepth 100000 in
theorem wd_47 : (Jvm.Cond.laysFinal "ExpenseClubs$Draft" "ExpenseClubs$Draft" "weights" "[J") ∈ lw_tbl := List.mem_of_getElem? (i := 71) rfl
set_option maxRecDepth 100000 in
theorem wd_48 : (Jvm.Cond.soleField "ExpenseClubs$Draft" "weights") ∈ lw_tbl := List.mem_of_getElem? (i := 72) rfl
set_option maxRecDepth 100000 in
theorem wd_49 : (Jvm.Cond.lays "ExpenseClubs$Draft" "ExpenseClubs$Draft" "club" "LExpenseClubs$Club;") ∈ lw_tbl := List.mem_of_getElem? (i := 73) rfl
set_option maxRecDepth 100000 in
theorem wd_50 : (Jvm.Cond.soleField "ExpenseClubs$Draft" "club") ∈ lw_tbl := List.mem_of_getElem? (i := 74) rfl
set_option maxRecDepth 100000 in
theorem wd_51 : (Jvm.Cond.lays "ExpenseClubs$Draft" "ExpenseClubs$Draft" "way" "I") ∈ lw_tbl := List.mem_of_getElem? (i := 75) rfl
set_option maxRecDepth 100000 in
theorem wd_52 : (Jvm.Cond.soleField "ExpenseClubs$Draft" "way") ∈ lw_tbl := List.mem_of_getElem? (i := 76) rfl
set_option maxRecDepth 100000 in
theorem wd_53 : (Jvm.Cond.lays "ExpenseClubs$Draft" "ExpenseClubs$Draft" "cents" "I") ∈ lw_tbl := List.mem_of_getElem? (i := 77) rfl
set_option maxRecDepth 100000 in
theorem wd_54 : (Jvm.Cond.soleField "ExpenseClubs$Draft" "cents") ∈ lw_tbl := List.mem_of_getElem? (i := 78) rfl
set_option maxRecDepth 100000 in
theorem wd_55 : (Jvm.Cond.lays "ExpenseClubs$Draft" "ExpenseClubs$Draft" "rate" "I") ∈ lw_tbl := List.mem_of_getElem? (i := 79) rfl
set_option maxRecDepth 100000 in
theorem wd_56 : (Jvm.Cond.soleField "ExpenseClubs$Draft" "rate") ∈ lw_tbl := List.mem_of_getElem? (i := 80) rfl
set_option maxRecDepth 100000 in
theorem wd_57 : (Jvm.Cond.lays "ExpenseClubs$Draft" "ExpenseClubs$Draft" "lineCount" "I") ∈ lw_tbl := List.mem_of_getElem? (i := 81) rfl
set_option maxRecDepth 100000 in
theorem wd_58 : (Jvm.Cond.soleField "ExpenseClubs$Draft" "lineCount") ∈ lw_tbl := List.mem_of_getElem? (i := 82) rfl
set_option maxRecDepth 100000 in
theorem wd_59 : (Jvm.Cond.superclass "ExpenseClubs$Draft" "java/lang/Object") ∈ lw_tbl := List.mem_of_getElem? (i := 83) rfl
set_option maxRecDepth 100000 in
theorem wd_60 : (Jvm.Cond.arrayClass Jvm.ClassFile.FieldType.long) ∈ lw_tbl := List.mem_of_getElem? (i := 84) rfl
set_option maxRecDepth 100000 in
theorem wd_61 : (Jvm.Cond.classLink "ExpenseClubs" (28 : Nat) "ExpenseClubs$Grouping") ∈ lw_tbl := List.mem_of_getElem? (i := 85) rfl
set_option maxRecDepth 100000 in
theorem wd_62 : (Jvm.Cond.instantiable "ExpenseClubs$Grouping" (4 : Nat)) ∈ lw_tbl := List.mem_of_getElem? (i := 86) rfl
set_option maxRecDepth 100000 in
theorem wd_63 : (Jvm.Cond.methodLinkNest "ExpenseClubs" (30 : Nat) ({ cls := "ExpenseClubs$Grouping", name := "<init>", desc := "()V" } : Jvm.MethodName) "ExpenseClubs") ∈ lw_tbl := List.mem_of_getElem? (i := 87) rfl
set_option maxRecDepth 100000 in
theorem wd_64 : (Jvm.Cond.instanceMethod ({ cls := "ExpenseClubs$Grouping", name := "<init>", desc := "()V" } : Jvm.MethodName)) ∈ lw_tbl := List.mem_of_getElem? (i := 88) rfl
set_option maxRecDepth 100000 in
theorem wd_65 : (Jvm.Cond.code ({ cls := "ExpenseClubs$Grouping", name := "<init>", desc := "()V" } : Jvm.MethodName) prog_5_method_1_code (1 : Nat) (Option.none : Option Jvm.ClassFile.FieldType)) ∈ lw_tbl := List.mem_of_getElem? (i := 89) rfl
set_option maxRecDepth 100000 in
theorem wd_66 : (Jvm.Cond.methodLink "ExpenseClubs$Grouping" (3 : Nat) ({ cls := "java/lang/Object", name := "<init>", desc := "()V" } : Jvm.MethodName)) ∈ lw_tbl := List.mem_of_getElem? (i := 90) rfl
set_option maxRecDepth 100000 in
theorem wd_67 : (Jvm.Cond.fieldLink "ExpenseClubs$Grouping" (9 : Nat) "ExpenseClubs$Grouping" "members" "[I") ∈ lw_tbl := List.mem_of_getElem? (i := 91) rfl
set_option maxRecDepth 100000 in
theorem wd_68 : (Jvm.Cond.fieldLink "ExpenseClubs$Grouping" (15 : Nat) "ExpenseClubs$Grouping" "amounts" "[J") ∈ lw_tbl := List.mem_of_getElem? (i := 92) rfl
set_option maxRecDepth 100000 in
theorem wd_69 : (Jvm.Cond.fieldLink "ExpenseClubs$Grouping" (19 : Nat) "ExpenseClubs$Grouping" "most" "[I") ∈ lw_tbl := List.mem_of_getElem? (i := 93) rfl
set_option maxRecDepth 100000 in
theorem wd_70 : (Jvm.Cond.fieldLink "ExpenseClubs$Grouping" (34 : Nat) "ExpenseClubs$Grouping" "size" "I") ∈ lw_tbl := List.mem_of_getElem? (i := 94) rfl
set_option maxRecDepth 100000 in
theorem wd_71 : (Jvm.Cond.laysFinal "ExpenseClubs$Grouping" "ExpenseClubs$Grouping" "members" "[I") ∈ lw_tbl := List.mem_of_getElem? (i := 95) rfl
set_option maxRecDepth 100000 in
theorem wd_72 : (Jvm.Cond.soleField "ExpenseClubs$Grouping" "members") ∈ lw_tbl := List.mem_of_getElem? (i := 96) rfl
set_option maxRecDepth 100000 in
theorem wd_73 : (Jvm.Cond.laysFinal "ExpenseClubs$Grouping" "ExpenseClubs$Grouping" "amounts" "[J") ∈ lw_tbl := List.mem_of_getElem? (i := 97) rfl
set_option maxRecDepth 100000 in
theorem wd_74 : (Jvm.Cond.soleField "ExpenseClubs$Grouping" "amounts") ∈ lw_tbl := List.mem_of_getElem? (i := 98) rfl
set_option maxRecDepth 100000 in
theorem wd_75 : (Jvm.Cond.laysFinal "ExpenseClubs$Grouping" "ExpenseClubs$Grouping" "most" "[I") ∈ lw_tbl := List.mem_of_getElem? (i := 99) rfl
set_option maxRecDepth 100000 in
theorem wd_76 : (Jvm.Cond.soleField "ExpenseClubs$Grouping" "most") ∈ lw_tbl := List.mem_of_getElem? (i := 100) rfl
set_option maxRecDepth 100000 in
theorem wd_77 : (Jvm.Cond.lays "ExpenseClubs$Grouping" "ExpenseClubs$Grouping" "size" "I") ∈ lw_tbl := List.mem_of_getElem? (i := 101) rfl
set_option maxRecDepth 100000 in
theorem wd_78 : (Jvm.Cond.soleField "ExpenseClubs$Grouping" "size") ∈ lw_tbl := List.mem_of_getElem? (i := 102) rfl
set_option maxRecDepth 100000 in
theorem wd_79 : (Jvm.Cond.superclass "ExpenseClubs$Grouping" "java/lang/Object") ∈ lw_tbl := List.mem_of_getElem? (i := 103) rfl
set_option maxRecDepth 100000 in
theorem wd_80 : (Jvm.Cond.arrayClass Jvm.ClassFile.FieldType.int) ∈ lw_tbl := List.mem_of_getElem? (i := 104) rfl
set_option maxRecDepth 100000 in
theorem wd_81 : (Jvm.Cond.fieldLink "ExpenseClubs" (11 : Nat) "ExpenseClubs" "clubs" "[LExpenseClubs$Club;") ∈ lw_tbl := List.mem_of_getElem? (i := 105) rfl
set_option maxRecDepth 100000 in
theorem wd_82 : (Jvm.Cond.fieldLink "ExpenseClubs" (17 : Nat) "ExpenseClubs" "bills" "[LExpenseClubs$Bill;") ∈ lw_tbl := List.mem_of_getElem? (i := 106) rfl
set_option maxRecDepth 100000 in
theorem wd_83 : (Jvm.Cond.fieldLink "ExpenseClubs" (24 : Nat) "ExpenseClubs" "draft" "LExpenseClubs$Draft;") ∈ lw_tbl := List.mem_of_getElem? (i := 107) rfl
set_option maxRecDepth 100000 in
theorem wd_84 : (Jvm.Cond.fieldLink "ExpenseClubs" (31 : Nat) "ExpenseClubs" "grouping" "LExpenseClubs$Grouping;") ∈ lw_tbl := List.mem_of_getElem? (i := 108) rfl
set_option maxRecDepth 100000 in
theorem wd_85 : (Jvm.Cond.fieldLink "ExpenseClubs" (35 : Nat) "ExpenseClubs" "clubCount" "I") ∈ lw_tbl := List.mem_of_getElem? (i := 109) rfl
set_option maxRecDepth 100000 in
theorem wd_86 : (Jvm.Cond.fieldLink "ExpenseClubs" (114 : Nat) "ExpenseClubs" "billCount" "I") ∈ lw_tbl := List.mem_of_getElem? (i := 110) rfl
set_option maxRecDepth 100000 in
theorem wd_87 : (Jvm.Cond.laysFinal "ExpenseClubs" "ExpenseClubs" "clubs" "[LExpenseClubs$Club;") ∈ lw_tbl := List.mem_of_getElem? (i := 111) rfl
set_option maxRecDepth 100000 in
theorem wd_88 : (Jvm.Cond.soleField "ExpenseClubs" "clubs") ∈ lw_tbl := List.mem_of_getElem? (i := 112) rfl
set_option maxRecDepth 100000 in
theorem wd_89 : (Jvm.Cond.laysFinal "ExpenseClubs" "ExpenseClubs" "bills" "[LExpenseClubs$Bill;") ∈ lw_tbl := List.mem_of_getElem? (i := 113) rfl
set_option maxRecDepth 100000 in
theorem wd_90 : (Jvm.Cond.soleField "ExpenseClubs" "bills") ∈ lw_tbl := List.mem_of_getElem? (i := 114) rfl
set_option maxRecDepth 100000 in
theorem wd_91 : (Jvm.Cond.laysFinal "ExpenseClubs" "ExpenseClubs" "draft" "LExpenseClubs$Draft;") ∈ lw_tbl := List.mem_of_getElem? (i := 115) rfl
set_option maxRecDepth 100000 in
theorem wd_92 : (Jvm.Cond.soleField "ExpenseClubs" "draft") ∈ lw_tbl := List.mem_of_getElem? (i := 116) rfl
set_option maxRecDepth 100000 in
theorem wd_93 : (Jvm.Cond.laysFinal "ExpenseClubs" "ExpenseClubs" "grouping" "LExpenseClubs$Grouping;") ∈ lw_tbl := List.mem_of_getElem? (i := 117) rfl
set_option maxRecDepth 100000 in
theorem wd_94 : (Jvm.Cond.soleField "ExpenseClubs" "grouping") ∈ lw_tbl := List.mem_of_getElem? (i := 118) rfl
set_option maxRecDepth 100000 in
theorem wd_95 : (Jvm.Cond.lays "ExpenseClubs" "ExpenseClubs" "clubCount" "I") ∈ lw_tbl := List.mem_of_getElem? (i := 119) rfl
set_option maxRecDepth 100000 in
theorem wd_96 : (Jvm.Cond.soleField "ExpenseClubs" "clubCount") ∈ lw_tbl := List.mem_of_getElem? (i := 120) rfl
set_option maxRecDepth 100000 in
theorem wd_97 : (Jvm.Cond.lays "ExpenseClubs" "ExpenseClubs" "billCount" "I") ∈ lw_tbl := List.mem_of_getElem? (i := 121) rfl
set_option maxRecDepth 100000 in
theorem wd_98 : (Jvm.Cond.soleField "ExpenseClubs" "billCount") ∈ lw_tbl := List.mem_of_getElem? (i := 122) rfl
set_option maxRecDepth 100000 in
theorem wd_99 : (Jvm.Cond.superclass "ExpenseClubs" "java/lang/Object") ∈ lw_tbl := List.mem_of_getElem? (i := 123) rfl
set_option maxRecDepth 100000 in
theorem wd_100 : (Jvm.Cond.methodLink "ExpenseClubsLaw" (21 : Nat) ({ cls := "ExpenseClubs", name := "club", desc := "()I" } : Jvm.MethodName)) ∈ lw_tbl := List.mem_of_getElem? (i := 124) rfl
set_option maxRecDepth 100000 in
theorem wd_101 : (Jvm.Cond.instanceMethod ({ cls := "ExpenseClubs", name := "club", desc := "()I" } : Jvm.MethodName)) ∈ lw_tbl := List.mem_of_getElem? (i := 125) rfl
set_option maxRecDepth 100000 in
theorem wd_102 : (Jvm.Cond.selects "ExpenseClubs" ({ cls := "ExpenseClubs", name := "club", desc := "()I" } : Jvm.MethodName) ({ cls := "ExpenseClubs", name := "club", desc := "()I" } : Jvm.MethodName)) ∈ lw_tbl := List.mem_of_getElem? (i := 126) rfl
set_option maxRecDepth 100000 in
theorem wd_103 : (Jvm.Cond.code ({ cls := "ExpenseClubs", name := "club", desc := "()I" } : Jvm.MethodName) prog_1_method_2_code (1 : Nat) (Option.some Jvm.ClassFile.FieldType.int)) ∈ lw_tbl := List.mem_of_getElem? (i := 127) rfl
set_option maxRecDepth 100000 in
theorem wd_104 : (Jvm.Cond.instantiable "ExpenseClubs$Club" (6 : Nat)) ∈ lw_tbl := List.mem_of_getElem? (i := 128) rfl
set_option maxRecDepth 100000 in
theorem wd_105 : (Jvm.Cond.methodLinkNest "ExpenseClubs" (39 : Nat) ({ cls := "ExpenseClubs$Club", name := "<init>", desc := "()V" } : Jvm.MethodName) "ExpenseClubs") ∈ lw_tbl := List.mem_of_getElem? (i := 129) rfl
set_option maxRecDepth 100000 in
theorem wd_106 : (Jvm.Cond.instanceMethod ({ cls := "ExpenseClubs$Club", name := "<init>", desc := "()V" } : Jvm.MethodName)) ∈ lw_tbl := List.mem_of_getElem? (i := 130) rfl
set_option maxRecDepth 100000 in
theorem wd_107 : (Jvm.Cond.code ({ cls := "ExpenseClubs$Club", name := "<init>", desc := "()V" } : Jvm.MethodName) prog_3_method_1_code (1 : Nat) (Option.none : Option Jvm.ClassFile.FieldType)) ∈ lw_tbl := List.mem_of_getElem? (i := 131) rfl
set_option maxRecDepth 100000 in
theorem wd_108 : (Jvm.Cond.methodLink "ExpenseClubs$Club" (3 : Nat) ({ cls := "java/lang/Object", name := "<init>", desc := "()V" } : Jvm.MethodName)) ∈ lw_tbl := List.mem_of_getElem? (i := 132) rfl
set_option maxRecDepth 100000 in
theorem wd_109 : (Jvm.Cond.classLink "ExpenseClubs$Club" (18 : Nat) "ExpenseClubs$Settlement") ∈ lw_tbl := List.mem_of_getElem? (i := 133) rfl
set_option maxRecDepth 100000 in
theorem wd_110 : (Jvm.Cond.instantiable "ExpenseClubs$Settlement" (9 : Nat)) ∈ lw_tbl := List.mem_of_getElem? (i := 134) rfl
set_option maxRecDepth 100000 in
theorem wd_111 : (Jvm.Cond.methodLinkNest "ExpenseClubs$Club" (20 : Nat) ({ cls := "ExpenseClubs$Settlement", name := "<init>", desc := "()V" } : Jvm.MethodName) "ExpenseClubs") ∈ lw_tbl := List.mem_of_getElem? (i := 135) rfl
set_option maxRecDepth 100000 in
theorem wd_112 : (Jvm.Cond.instanceMethod ({ cls := "ExpenseClubs$Settlement", name := "<init>", desc := "()V" } : Jvm.MethodName)) ∈ lw_tbl := List.mem_of_getElem? (i := 136) rfl
set_option maxRecDepth 100000 in
theorem wd_113 : (Jvm.Cond.code ({ cls := "ExpenseClubs$Settlement", name := "<init>", desc := "()V" } : Jvm.MethodName) prog_6_method_1_code (1 : Nat) (Option.none : Option Jvm.ClassFile.FieldType)) ∈ lw_tbl := List.mem_of_getElem? (i := 137) rfl
set_option maxRecDepth 100000 in
theorem wd_114 : (Jvm.Cond.methodLink "ExpenseClubs$Settlement" (3 : Nat) ({ cls := "java/lang/Object", name := "<init>", desc := "()V" } : Jvm.MethodName)) ∈ lw_tbl := List.mem_of_getElem? (i := 138) rfl
set_option maxRecDepth 100000 in
theorem wd_115 : (Jvm.Cond.fieldLink "ExpenseClubs$Settlement" (9 : Nat) "ExpenseClubs$Settlement" "groups" "[I") ∈ lw_tbl := List.mem_of_getElem? (i := 139) rfl
set_option maxRecDepth 100000 in
theorem wd_116 : (Jvm.Cond.fieldLink "ExpenseClubs$Grouping" (60 : Nat) "ExpenseClubs$Settlement" "groups" "[I") ∈ lw_tbl := List.mem_of_getElem? (i := 140) rfl
set_option maxRecDepth 100000 in
theorem wd_117 : (Jvm.Cond.fieldLink "ExpenseClubs" (195 : Nat) "ExpenseClubs$Settlement" "groups" "[I") ∈ lw_tbl := List.mem_of_getElem? (i := 141) rfl
set_option maxRecDepth 100000 in
theorem wd_118 : (Jvm.Cond.fieldLink "ExpenseClubs$Settlement" (15 : Nat) "ExpenseClubs$Settlement" "senders" "[I") ∈ lw_tbl := List.mem_of_getElem? (i := 142) rfl
set_option maxRecDepth 100000 in
theorem wd_119 : (Jvm.Cond.fieldLink "ExpenseClubs$Club" (55 : Nat) "ExpenseClubs$Settlement" "senders" "[I") ∈ lw_tbl := List.mem_of_getElem? (i := 143) rfl
set_option maxRecDepth 100000 in
theorem wd_120 : (Jvm.Cond.fieldLink "ExpenseClubs" (163 : Nat) "ExpenseClubs$Settlement" "senders" "[I") ∈ lw_tbl := List.mem_of_getElem? (i := 144) rfl
set_option maxRecDepth 100000 in
theorem wd_121 : (Jvm.Cond.fieldLink "ExpenseClubs$Settlement" (18 : Nat) "ExpenseClubs$Settlement" "getters" "[I") ∈ lw_tbl := List.mem_of_getElem? (i := 145) rfl
set_option maxRecDepth 100000 in
theorem wd_122 : (Jvm.Cond.fieldLink "ExpenseClubs$Club" (62 : Nat) "ExpenseClubs$Settlement" "getters" "[I") ∈ lw_tbl := List.mem_of_getElem? (i := 146) rfl
set_option maxRecDepth 100000 in
theorem wd_123 : (Jvm.Cond.fieldLink "ExpenseClubs" (167 : Nat) "ExpenseClubs$Settlement" "getters" "[I") ∈ lw_tbl := List.mem_of_getElem? (i := 147) rfl
set_option maxRecDepth 100000 in
theorem wd_124 : (Jvm.Cond.fieldLink "ExpenseClubs$Settlement" (21 : Nat) "ExpenseClubs$Settlement" "amounts" "[J") ∈ lw_tbl := List.mem_of_getElem? (i := 148) rfl
set_option maxRecDepth 100000 in
theorem wd_125 : (Jvm.Cond.fieldLink "ExpenseClubs$Club" (59 : Nat) "ExpenseClubs$Settlement" "amounts" "[J") ∈ lw_tbl := List.mem_of_getElem? (i := 149) rfl
set_option maxRecDepth 100000 in
theorem wd_126 : (Jvm.Cond.fieldLink "ExpenseClubs" (170 : Nat) "ExpenseClubs$Settlement" "amounts" "[J") ∈ lw_tbl := List.mem_of_getElem? (i := 150) rfl
set_option maxRecDepth 100000 in
theorem wd_127 : (Jvm.Cond.fieldLink "ExpenseClubs$Settlement" (25 : Nat) "ExpenseClubs$Settlement" "ticked" "[Z") ∈ lw_tbl := List.mem_of_getElem? (i := 151) rfl
set_option maxRecDepth 100000 in
theorem wd_128 : (Jvm.Cond.fieldLink "ExpenseClubs$Club" (48 : Nat) "ExpenseClubs$Settlement" "ticked" "[Z") ∈ lw_tbl := List.mem_of_getElem? (i := 152) rfl
set_option maxRecDepth 100000 in
theorem wd_129 : (Jvm.Cond.fieldLink "ExpenseClubs" (173 : Nat) "ExpenseClubs$Settlement" "ticked" "[Z") ∈ lw_tbl := List.mem_of_getElem? (i := 153) rfl
set_option maxRecDepth 100000 in
theorem wd_130 : (Jvm.Cond.fieldLink "ExpenseClubs$Settlement" (29 : Nat) "ExpenseClubs$Settlement" "open" "Z") ∈ lw_tbl := List.mem_of_getElem? (i := 154) rfl
set_option maxRecDepth 100000 in
theorem wd_131 : (Jvm.Cond.fieldLink "ExpenseClubs" (59 : Nat) "ExpenseClubs$Settlement" "open" "Z") ∈ lw_tbl := List.mem_of_getElem? (i := 155) rfl
set_option maxRecDepth 100000 in
theorem wd_132 : (Jvm.Cond.fieldLink "ExpenseClubs$Settlement" (33 : Nat) "ExpenseClubs$Settlement" "groupCount" "I") ∈ lw_tbl := List.mem_of_getElem? (i := 156) rfl
set_option maxRecDepth 100000 in
theorem wd_133 : (Jvm.Cond.fieldLink "ExpenseClubs$Grouping" (63 : Nat) "ExpenseClubs$Settlement" "groupCount" "I") ∈ lw_tbl := List.mem_of_getElem? (i := 157) rfl
set_option maxRecDepth 100000 in
theorem wd_134 : (Jvm.Cond.fieldLink "ExpenseClubs" (189 : Nat) "ExpenseClubs$Settlement" "groupCount" "I") ∈ lw_tbl := List.mem_of_getElem? (i := 158) rfl
set_option maxRecDepth 100000 in
theorem wd_135 : (Jvm.Cond.fieldLink "ExpenseClubs$Settlement" (37 : Nat) "ExpenseClubs$Settlement" "transferCount" "I") ∈ lw_tbl := List.mem_of_getElem? (i := 159) rfl
set_option maxRecDepth 100000 in
theorem wd_136 : (Jvm.Cond.fieldLink "ExpenseClubs" (150 : Nat) "ExpenseClubs$Settlement" "transferCount" "I") ∈ lw_tbl := List.mem_of_getElem? (i := 160) rfl
set_option maxRecDepth 100000 in
theorem wd_137 : (Jvm.Cond.fieldLink "ExpenseClubs$Settlement" (40 : Nat) "ExpenseClubs$Settlement" "waiting" "I") ∈ lw_tbl := List.mem_of_getElem? (i := 161) rfl
set_option maxRecDepth 100000 in
theorem wd_138 : (Jvm.Cond.fieldLink "ExpenseClubs$Club" (52 : Nat) "ExpenseClubs$Settlement" "waiting" "I") ∈ lw_tbl := List.mem_of_getElem? (i := 162) rfl
set_option maxRecDepth 100000 in
theorem wd_139 : (Jvm.Cond.fieldLink "ExpenseClubs" (186 : Nat) "ExpenseClubs$Settlement" "waiting" "I") ∈ lw_tbl := List.mem_of_getElem? (i := 163) rfl
set_option maxRecDepth 100000 in
theorem wd_140 : (Jvm.Cond.laysFinal "ExpenseClubs$Settlement" "ExpenseClubs$Settlement" "groups" "[I") ∈ lw_tbl := List.mem_of_getElem? (i := 164) rfl
set_option maxRecDepth 100000 in
theorem wd_141 : (Jvm.Cond.soleField "ExpenseClubs$Settlement" "groups") ∈ lw_tbl := List.mem_of_getElem? (i := 165) rfl
set_option maxRecDepth 100000 in
theorem wd_142 : (Jvm.Cond.laysFinal "ExpenseClubs$Settlement" "ExpenseClubs$Settlement" "senders" "[I") ∈ lw_tbl := List.mem_of_getElem? (i := 166) rfl
set_option maxRecDepth 100000 in
theorem wd_143 : (Jvm.Cond.soleField "ExpenseClubs$Settlement" "senders") ∈ lw_tbl := List.mem_of_getElem? (i := 167) rfl
set_option maxRecDepth 100000 in
theorem wd_144 : (Jvm.Cond.laysFinal "ExpenseClubs$Settlement" "ExpenseClubs$Settlement" "getters" "[I") ∈ lw_tbl := List.mem_of_getElem? (i := 168) rfl
set_option maxRecDepth 100000 in
theorem wd_145 : (Jvm.Cond.soleField "ExpenseClubs$Settlement" "getters") ∈ lw_tbl := List.mem_of_getElem? (i := 169) rfl
set_option maxRecDepth 100000 in
theorem wd_146 : (Jvm.Cond.laysFinal "ExpenseClubs$Settlement" "ExpenseClubs$Settlement" "amounts" "[J") ∈ lw_tbl := List.mem_of_getElem? (i := 170) rfl
set_option maxRecDepth 100000 in
theorem wd_147 : (Jvm.Cond.soleField "ExpenseClubs$Settlement" "amounts") ∈ lw_tbl := List.mem_of_getElem? (i := 171) rfl
set_option maxRecDepth 100000 in
theorem wd_148 : (Jvm.Cond.laysFinal "ExpenseClubs$Settlement" "ExpenseClubs$Settlement" "ticked" "[Z") ∈ lw_tbl := List.mem_of_getElem? (i := 172) rfl
set_option maxRecDepth 100000 in
theorem wd_149 : (Jvm.Cond.soleField "ExpenseClubs$Settlement" "ticked") ∈ lw_tbl := List.mem_of_getElem? (i := 173) rfl
set_option maxRecDepth 100000 in
theorem wd_150 : (Jvm.Cond.lays "ExpenseClubs$Settlement" "ExpenseClubs$Settlement" "open" "Z") ∈ lw_tbl := List.mem_of_getElem? (i := 174) rfl
set_option maxRecDepth 100000 in
theorem wd_151 : (Jvm.Cond.soleField "ExpenseClubs$Settlement" "open") ∈ lw_tbl := List.mem_of_getElem? (i := 175) rfl
set_option maxRecDepth 100000 in
theorem wd_152 : (Jvm.Cond.lays "ExpenseClubs$Settlement" "ExpenseClubs$Settlement" "groupCount" "I") ∈ lw_tbl := List.mem_of_getElem? (i := 176) rfl
set_option maxRecDepth 100000 in
theorem wd_153 : (Jvm.Cond.soleField "ExpenseClubs$Settlement" "groupCount") ∈ lw_tbl := List.mem_of_getElem? (i := 177) rfl
set_option maxRecDepth 100000 in
theorem wd_154 : (Jvm.Cond.lays "ExpenseClubs$Settlement" "ExpenseClubs$Settlement" "transferCount" "I") ∈ lw_tbl := List.mem_of_getElem? (i := 178) rfl
set_option maxRecDepth 100000 in
theorem wd_155 : (Jvm.Cond.soleField "ExpenseClubs$Settlement" "transferCount") ∈ lw_tbl := List.mem_of_getElem? (i := 179) rfl
set_option maxRecDepth 100000 in
theorem wd_156 : (Jvm.Cond.lays "ExpenseClubs$Settlement" "ExpenseClubs$Settlement" "waiting" "I") ∈ lw_tbl := List.mem_of_getElem? (i := 180) rfl
set_option maxRecDepth 100000 in
theorem wd_157 : (Jvm.Cond.soleField "ExpenseClubs$Settlement" "waiting") ∈ lw_tbl := List.mem_of_getElem? (i := 181) rfl
set_option maxRecDepth 100000 in
theorem wd_158 : (Jvm.Cond.superclass "ExpenseClubs$Settlement" "java/lang/Object") ∈ lw_tbl := List.mem_of_getElem? (i := 182) rfl
set_option maxRecDepth 100000 in
theorem wd_159 : (Jvm.Cond.arrayClass Jvm.ClassFile.FieldType.boolean) ∈ lw_tbl := List.mem_of_getElem? (i := 183) rfl
set_option maxRecDepth 100000 in
theorem wd_160 : (Jvm.Cond.fieldLink "ExpenseClubs$Club" (9 : Nat) "ExpenseClubs$Club" "balances" "[J") ∈ lw_tbl := List.mem_of_getElem? (i := 184) rfl
set_option maxRecDepth 100000 in
theorem wd_161 : (Jvm.Cond.fieldLink "ExpenseClubs" (51 : Nat) "ExpenseClubs$Club" "balances" "[J") ∈ lw_tbl := List.mem_of_getElem? (i := 185) rfl
set_option maxRecDepth 100000 in
theorem wd_162 : (Jvm.Cond.fieldLink "ExpenseClubs$Club" (15 : Nat) "ExpenseClubs$Club" "drifts" "[J") ∈ lw_tbl := List.mem_of_getElem? (i := 186) rfl
set_option maxRecDepth 100000 in
theorem wd_163 : (Jvm.Cond.fieldLink "ExpenseClubs" (145 : Nat) "ExpenseClubs$Club" "drifts" "[J") ∈ lw_tbl := List.mem_of_getElem? (i := 187) rfl
set_option maxRecDepth 100000 in
theorem wd_164 : (Jvm.Cond.fieldLink "ExpenseClubs$Club" (21 : Nat) "ExpenseClubs$Club" "settlement" "LExpenseClubs$Settlement;") ∈ lw_tbl := List.mem_of_getElem? (i := 188) rfl
set_option maxRecDepth 100000 in
theorem wd_165 : (Jvm.Cond.fieldLink "ExpenseClubs" (55 : Nat) "ExpenseClubs$Club" "settlement" "LExpenseClubs$Settlement;") ∈ lw_tbl := List.mem_of_getElem? (i := 189) rfl
set_option maxRecDepth 100000 in
theorem wd_166 : (Jvm.Cond.fieldLink "ExpenseClubs$Club" (25 : Nat) "ExpenseClubs$Club" "memberCount" "I") ∈ lw_tbl := List.mem_of_getElem? (i := 190) rfl
set_option maxRecDepth 100000 in
theorem wd_167 : (Jvm.Cond.fieldLink "ExpenseClubs" (44 : Nat) "ExpenseClubs$Club" "memberCount" "I") ∈ lw_tbl := List.mem_of_getElem? (i := 191) rfl
set_option maxRecDepth 100000 in
theorem wd_168 : (Jvm.Cond.fieldLink "ExpenseClubs$Club" (36 : Nat) "ExpenseClubs$Club" "goneSet" "I") ∈ lw_tbl := List.mem_of_getElem? (i := 192) rfl
set_option maxRecDepth 100000 in
theorem wd_169 : (Jvm.Cond.fieldLink "ExpenseClubs" (65 : Nat) "ExpenseClubs$Club" "goneSet" "I") ∈ lw_tbl := List.mem_of_getElem? (i := 193) rfl
set_option maxRecDepth 100000 in
theorem wd_170 : (Jvm.Cond.fieldLink "ExpenseClubs$Draft" (79 : Nat) "ExpenseClubs$Club" "mark" "I") ∈ lw_tbl := List.mem_of_getElem? (i := 194) rfl
set_option maxRecDepth 100000 in
theorem wd_171 : (Jvm.Cond.fieldLink "ExpenseClubs" (192 : Nat) "ExpenseClubs$Club" "mark" "I") ∈ lw_tbl := List.mem_of_getElem? (i := 195) rfl
set_option maxRecDepth 100000 in
theorem wd_172 : (Jvm.Cond.laysFinal "ExpenseClubs$Club" "ExpenseClubs$Club" "balances" "[J") ∈ lw_tbl := List.mem_of_getElem? (i := 196) rfl
set_option maxRecDepth 100000 in
theorem wd_173 : (Jvm.Cond.soleField "ExpenseClubs$Club" "balances") ∈ lw_tbl := List.mem_of_getElem? (i := 197) rfl
set_option maxRecDepth 100000 in
theorem wd_174 : (Jvm.Cond.laysFinal "ExpenseClubs$Club" "ExpenseClubs$Club" "drifts" "[J") ∈ lw_tbl := List.mem_of_getElem? (i := 198) rfl
set_option maxRecDepth 100000 in
theorem wd_175 : (Jvm.Cond.soleField "ExpenseClubs$Club" "drifts") ∈ lw_tbl := List.mem_of_getElem? (i := 199) rfl
set_option maxRecDepth 100000 in
theorem wd_176 : (Jvm.Cond.laysFinal "ExpenseClubs$Club" "ExpenseClubs$Club" "settlement" "LExpenseClubs$Settlement;") ∈ lw_tbl := List.mem_of_getElem? (i := 200) rfl
set_option maxRecDepth 100000 in
theorem wd_177 : (Jvm.Cond.soleField "ExpenseClubs$Club" "settlement") ∈ lw_tbl := List.mem_of_getElem? (i := 201) rfl
set_option maxRecDepth 100000 in
theorem wd_178 : (Jvm.Cond.lays "ExpenseClubs$Club" "ExpenseClubs$Club" "memberCount" "I") ∈ lw_tbl := List.mem_of_getElem? (i := 202) rfl
set_option maxRecDepth 100000 in
theorem wd_179 : (Jvm.Cond.soleField "ExpenseClubs$Club" "memberCount") ∈ lw_tbl := List.mem_of_getElem? (i := 203) rfl
set_option maxRecDepth 100000 in
theorem wd_180 : (Jvm.Cond.lays "ExpenseClubs$Club" "ExpenseClubs$Club" "goneSet" "I") ∈ lw_tbl := List.mem_of_getElem? (i := 204) rfl
set_option maxRecDepth 100000 in
theorem wd_181 : (Jvm.Cond.soleField "ExpenseClubs$Club" "goneSet") ∈ lw_tbl := List.mem_of_getElem? (i := 205) rfl
set_option maxRecDepth 100000 in
theorem wd_182 : (Jvm.Cond.lays "ExpenseClubs$Club" "ExpenseClubs$Club" "mark" "I") ∈ lw_tbl := List.mem_of_getElem? (i := 206) rfl
set_option maxRecDepth 100000 in
theorem wd_183 : (Jvm.Cond.soleField "ExpenseClubs$Club" "mark") ∈ lw_tbl := List.mem_of_getElem? (i := 207) rfl
set_option maxRecDepth 100000 in
theorem wd_184 : (Jvm.Cond.superclass "ExpenseClubs$Club" "java/lang/Object") ∈ lw_tbl := List.mem_of_getElem? (i := 208) rfl
set_option maxRecDepth 100000 in
theorem wd_185 : (Jvm.Cond.methodLink "ExpenseClubsLaw" (26 : Nat) ({ cls := "ExpenseClubs", name := "member", desc := "(I)I" } : Jvm.MethodName)) ∈ lw_tbl := List.mem_of_getElem? (i := 209) rfl
set_option maxRecDepth 100000 in
theorem wd_186 : (Jvm.Cond.instanceMethod ({ cls := "ExpenseClubs", name := "member", desc := "(I)I" } : Jvm.MethodName)) ∈ lw_tbl := List.mem_of_getElem? (i := 210) rfl
set_option maxRecDepth 100000 in
theorem wd_187 : (Jvm.Cond.selects "ExpenseClubs" ({ cls := "ExpenseClubs", name := "member", desc := "(I)I" } : Jvm.MethodName) ({ cls := "ExpenseClubs", name := "member", desc := "(I)I" } : Jvm.MethodName)) ∈ lw_tbl := List.mem_of_getElem? (i := 211) rfl
set_option maxRecDepth 100000 in
theorem wd_188 : (Jvm.Cond.code ({ cls := "ExpenseClubs", name := "member", desc := "(I)I" } : Jvm.MethodName) prog_1_method_3_code (3 : Nat) (Option.some Jvm.ClassFile.FieldType.int)) ∈ lw_tbl := List.mem_of_getElem? (i := 212) rfl
set_option maxRecDepth 100000 in
theorem wd_189 : (Jvm.Cond.methodLink "ExpenseClubs" (40 : Nat) ({ cls := "ExpenseClubs", name := "clubAt", desc := "(I)LExpenseClubs$Club;" } : Jvm.MethodName)) ∈ lw_tbl := List.mem_of_getElem? (i := 213) rfl
set_option maxRecDepth 100000 in
theorem wd_190 : (Jvm.Cond.privateMethod ({ cls := "ExpenseClubs", name := "clubAt", desc := "(I)LExpenseClubs$Club;" } : Jvm.MethodName)) ∈ lw_tbl := List.mem_of_getElem? (i := 214) rfl
set_option maxRecDepth 100000 in
theorem wd_191 : (Jvm.Cond.instanceMethod ({ cls := "ExpenseClubs", name := "clubAt", desc := "(I)LExpenseClubs$Club;" } : Jvm.MethodName)) ∈ lw_tbl := List.mem_of_getElem? (i := 215) rfl
set_option maxRecDepth 100000 in
theorem wd_192 : (Jvm.Cond.code ({ cls := "ExpenseClubs", name := "clubAt", desc := "(I)LExpenseClubs$Club;" } : Jvm.MethodName) prog_1_method_22_code (2 : Nat) (Option.some (Jvm.ClassFile.FieldType.object "ExpenseClubs$Club"))) ∈ lw_tbl := List.mem_of_getElem? (i := 216) rfl
set_option maxRecDepth 100000 in
theorem wd_193 : (Jvm.Cond.methodLink "ExpenseClubsLaw" (31 : Nat) ({ cls := "ExpenseClubs", name := "leave", desc := "(II)Z" } : Jvm.MethodName)) ∈ lw_tbl := List.mem_of_getElem? (i := 217) rfl
set_option maxRecDepth 100000 in
theorem wd_194 : (Jvm.Cond.instanceMethod ({ cls := "ExpenseClubs", name := "leave", desc := "(II)Z" } : Jvm.MethodName)) ∈ lw_tbl := List.mem_of_getElem? (i := 218) rfl
set_option maxRecDepth 100000 in
theorem wd_195 : (Jvm.Cond.selects "ExpenseClubs" ({ cls := "ExpenseClubs", name := "leave", desc := "(II)Z" } : Jvm.MethodName) ({ cls := "ExpenseClubs", name := "leave", desc := "(II)Z" } : Jvm.MethodName)) ∈ lw_tbl := List.mem_of_getElem? (i := 219) rfl
set_option maxRecDepth 100000 in
theorem wd_196 : (Jvm.Cond.code ({ cls := "ExpenseClubs", name := "leave", desc := "(II)Z" } : Jvm.MethodName) prog_1_method_4_code (4 : Nat) (Option.some Jvm.ClassFile.FieldType.boolean)) ∈ lw_tbl := List.mem_of_getElem? (i := 220) rfl
set_option maxRecDepth 100000 in
theorem wd_197 : (Jvm.Cond.methodLink "ExpenseClubs" (47 : Nat) ({ cls := "ExpenseClubs$Club", name := "isPresent", desc := "(I)Z" } : Jvm.MethodName)) ∈ lw_tbl := List.mem_of_getElem? (i := 221) rfl
set_option maxRecDepth 100000 in
theorem wd_198 : (Jvm.Cond.instanceMethod ({ cls := "ExpenseClubs$Club", name := "isPresent", desc := "(I)Z" } : Jvm.MethodName)) ∈ lw_tbl := List.mem_of_getElem? (i := 222) rfl
set_option maxRecDepth 100000 in
theorem wd_199 : (Jvm.Cond.selects "ExpenseClubs$Club" ({ cls := "ExpenseClubs$Club", name := "isPresent", desc := "(I)Z" } : Jvm.MethodName) ({ cls := "ExpenseClubs$Club", name := "isPresent", desc := "(I)Z" } : Jvm.MethodName)) ∈ lw_tbl := List.mem_of_getElem? (i := 223) rfl
set_option maxRecDepth 100000 in
theorem wd_200 : (Jvm.Cond.code ({ cls := "ExpenseClubs$Club", name := "isPresent", desc := "(I)Z" } : Jvm.MethodName) prog_3_method_3_code (2 : Nat) (Option.some Jvm.ClassFile.FieldType.boolean)) ∈ lw_tbl := List.mem_of_getElem? (i := 224) rfl
set_option maxRecDepth 100000 in
theorem wd_201 : (Jvm.Cond.methodLink "ExpenseClubs$Club" (29 : Nat) ({ cls := "ExpenseClubs$Club", name := "isMember", desc := "(I)Z" } : Jvm.MethodName)) ∈ lw_tbl := List.mem_of_getElem? (i := 225) rfl
set_option maxRecDepth 100000 in
theorem wd_202 : (Jvm.Cond.instanceMethod ({ cls := "ExpenseClubs$Club", name := "isMember", desc := "(I)Z" } : Jvm.MethodName)) ∈ lw_tbl := List.mem_of_getElem? (i := 226) rfl
set_option maxRecDepth 100000 in
theorem wd_203 : (Jvm.Cond.selects "ExpenseClubs$Club" ({ cls := "ExpenseClubs$Club", name := "isMember", desc := "(I)Z" } : Jvm.MethodName) ({ cls := "ExpenseClubs$Club", name := "isMember", desc := "(I)Z" } : Jvm.MethodName)) ∈ lw_tbl := List.mem_of_getElem? (i := 227) rfl
set_option maxRecDepth 100000 in
theorem wd_204 : (Jvm.Cond.code ({ cls := "ExpenseClubs$Club", name := "isMember", desc := "(I)Z" } : Jvm.MethodName) prog_3_method_2_code (2 : Nat) (Option.some Jvm.ClassFile.FieldType.boolean)) ∈ lw_tbl := List.mem_of_getElem? (i := 228) rfl
set_option maxRecDepth 100000 in
theorem wd_205 : (Jvm.Cond.methodLink "ExpenseClubs$Club" (33 : Nat) ({ cls := "ExpenseClubs$Club", name := "isGone", desc := "(I)Z" } : Jvm.MethodName)) ∈ lw_tbl := List.mem_of_getElem? (i := 229) rfl
set_option maxRecDepth 100000 in
theorem wd_206 : (Jvm.Cond.instanceMethod ({ cls := "ExpenseClubs$Club", name := "isGone", desc := "(I)Z" } : Jvm.MethodName)) ∈ lw_tbl := List.mem_of_getElem? (i := 230) rfl
set_option maxRecDepth 100000 in
theorem wd_207 : (Jvm.Cond.selects "ExpenseClubs$Club" ({ cls := "ExpenseClubs$Club", name := "isGone", desc := "(I)Z" } : Jvm.MethodName) ({ cls := "ExpenseClubs$Club", name := "isGone", desc := "(I)Z" } : Jvm.MethodName)) ∈ lw_tbl := List.mem_of_getElem? (i := 231) rfl
set_option maxRecDepth 100000 in
theorem wd_208 : (Jvm.Cond.code ({ cls := "ExpenseClubs$Club", name := "isGone", desc := "(I)Z" } : Jvm.MethodName) prog_3_method_4_code (2 : Nat) (Option.some Jvm.ClassFile.FieldType.boolean)) ∈ lw_tbl := List.mem_of_getElem? (i := 232) rfl
set_option maxRecDepth 100000 in
theorem wd_209 : (Jvm.Cond.methodLink "ExpenseClubsLaw" (36 : Nat) ({ cls := "ExpenseClubs", name := "bill", desc := "(IIII)Z" } : Jvm.MethodName)) ∈ lw_tbl := List.mem_of_getElem? (i := 233) rfl
set_option maxRecDepth 100000 in
theorem wd_210 : (Jvm.Cond.instanceMethod ({ cls := "ExpenseClubs", name := "bill", desc := "(IIII)Z" } : Jvm.MethodName)) ∈ lw_tbl := List.mem_of_getElem? (i := 234) rfl
set_option maxRecDepth 100000 in
theorem wd_211 : (Jvm.Cond.selects "ExpenseClubs" ({ cls := "ExpenseClubs", name := "bill", desc := "(IIII)Z" } : Jvm.MethodName) ({ cls := "ExpenseClubs", name := "bill", desc := "(IIII)Z" } : Jvm.MethodName)) ∈ lw_tbl := List.mem_of_getElem? (i := 235) rfl
set_option maxRecDepth 100000 in
theorem wd_212 : (Jvm.Cond.code ({ cls := "ExpenseClubs", name := "bill", desc := "(IIII)Z" } : Jvm.MethodName) prog_1_method_5_code (6 : Nat) (Option.some Jvm.ClassFile.FieldType.boolean)) ∈ lw_tbl := List.mem_of_getElem? (i := 236) rfl
set_option maxRecDepth 100000 in
theorem wd_213 : (Jvm.Cond.constant "ExpenseClubs" (68 : Nat) (100000000 : Int32)) ∈ lw_tbl := List.mem_of_getElem? (i := 237) rfl
set_option maxRecDepth 100000 in
theorem wd_214 : (Jvm.Cond.constant "ExpenseClubs" (69 : Nat) (1000000000 : Int32)) ∈ lw_tbl := List.mem_of_getElem? (i := 238) rfl
set_option maxRecDepth 100000 in
theorem wd_215 : (Jvm.Cond.methodLink "ExpenseClubs" (70 : Nat) ({ cls := "ExpenseClubs$Draft", name := "begin", desc := "(LExpenseClubs$Club;III)V" } : Jvm.MethodName)) ∈ lw_tbl := List.mem_of_getElem? (i := 239) rfl
set_option maxRecDepth 100000 in
theorem wd_216 : (Jvm.Cond.instanceMethod ({ cls := "ExpenseClubs$Draft", name := "begin", desc := "(LExpenseClubs$Club;III)V" } : Jvm.MethodName)) ∈ lw_tbl := List.mem_of_getElem? (i := 240) rfl
set_option maxRecDepth 100000 in
theorem wd_217 : (Jvm.Cond.selects "ExpenseClubs$Draft" ({ cls := "ExpenseClubs$Draft", name := "begin", desc := "(LExpenseClubs$Club;III)V" } : Jvm.MethodName) ({ cls := "ExpenseClubs$Draft", name := "begin", desc := "(LExpenseClubs$Club;III)V" } : Jvm.MethodName)) ∈ lw_tbl := List.mem_of_getElem? (i := 241) rfl
set_option maxRecDepth 100000 in
theorem wd_218 : (Jvm.Cond.code ({ cls := "ExpenseClubs$Draft", name := "begin", desc := "(LExpenseClubs$Club;III)V" } : Jvm.MethodName) prog_4_method_2_code (6 : Nat) (Option.none : Option Jvm.ClassFile.FieldType)) ∈ lw_tbl := List.mem_of_getElem? (i := 242) rfl
set_option maxRecDepth 100000 in
theorem wd_219 : (Jvm.Cond.methodLink "ExpenseClubsLaw" (41 : Nat) ({ cls := "ExpenseClubs", name := "payer", desc := "(II)Z" } : Jvm.MethodName)) ∈ lw_tbl := List.mem_of_getElem? (i := 243) rfl
set_option maxRecDepth 100000 in
theorem wd_220 : (Jvm.Cond.instanceMethod ({ cls := "ExpenseClubs", name := "payer", desc := "(II)Z" } : Jvm.MethodName)) ∈ lw_tbl := List.mem_of_getElem? (i := 244) rfl
set_option maxRecDepth 100000 in
theorem wd_221 : (Jvm.Cond.selects "ExpenseClubs" ({ cls := "ExpenseClubs", name := "payer", desc := "(II)Z" } : Jvm.MethodName) ({ cls := "ExpenseClubs", name := "payer", desc := "(II)Z" } : Jvm.MethodName)) ∈ lw_tbl := List.mem_of_getElem? (i := 245) rfl
set_option maxRecDepth 100000 in
theorem wd_222 : (Jvm.Cond.code ({ cls := "ExpenseClubs", name := "payer", desc := "(II)Z" } : Jvm.MethodName) prog_1_method_6_code (4 : Nat) (Option.some Jvm.ClassFile.FieldType.boolean)) ∈ lw_tbl := List.mem_of_getElem? (i := 246) rfl
set_option maxRecDepth 100000 in
theorem wd_223 : (Jvm.Cond.methodLink "ExpenseClubsLaw" (45 : Nat) ({ cls := "ExpenseClubs", name := "weight", desc := "(II)Z" } : Jvm.MethodName)) ∈ lw_tbl := List.mem_of_getElem? (i := 247) rfl
set_option maxRecDepth 100000 in
theorem wd_224 : (Jvm.Cond.instanceMethod ({ cls := "ExpenseClubs", name := "weight", desc := "(II)Z" } : Jvm.MethodName)) ∈ lw_tbl := List.mem_of_getElem? (i := 248) rfl
set_option maxRecDepth 100000 in
theorem wd_225 : (Jvm.Cond.selects "ExpenseClubs" ({ cls := "ExpenseClubs", name := "weight", desc := "(II)Z" } : Jvm.MethodName) ({ cls := "ExpenseClubs", name := "weight", desc := "(II)Z" } : Jvm.MethodName)) ∈ lw_tbl := List.mem_of_getElem? (i := 249) rfl
set_option maxRecDepth 100000 in
theorem wd_226 : (Jvm.Cond.code ({ cls := "ExpenseClubs", name := "weight", desc := "(II)Z" } : Jvm.MethodName) prog_1_method_7_code (4 : Nat) (Option.some Jvm.ClassFile.FieldType.boolean)) ∈ lw_tbl := List.mem_of_getElem? (i := 250) rfl
set_option maxRecDepth 100000 in
theorem wd_227 : (Jvm.Cond.methodLink "ExpenseClubs" (84 : Nat) ({ cls := "ExpenseClubs", name := "mostWeight", desc := "(I)I" } : Jvm.MethodName)) ∈ lw_tbl := List.mem_of_getElem? (i := 251) rfl
set_option maxRecDepth 100000 in
theorem wd_228 : (Jvm.Cond.static ({ cls := "ExpenseClubs", name := "mostWeight", desc := "(I)I" } : Jvm.MethodName)) ∈ lw_tbl := List.mem_of_getElem? (i := 252) rfl
set_option maxRecDepth 100000 in
theorem wd_229 : (Jvm.Cond.code ({ cls := "ExpenseClubs", name := "mostWeight", desc := "(I)I" } : Jvm.MethodName) prog_1_method_25_code (1 : Nat) (Option.some Jvm.ClassFile.FieldType.int)) ∈ lw_tbl := List.mem_of_getElem? (i := 253) rfl
set_option maxRecDepth 100000 in
theorem wd_230 : (Jvm.Cond.methodLink "ExpenseClubsLaw" (49 : Nat) ({ cls := "ExpenseClubs", name := "line", desc := "(II)Z" } : Jvm.MethodName)) ∈ lw_tbl := List.mem_of_getElem? (i := 254) rfl
set_option maxRecDepth 100000 in
theorem wd_231 : (Jvm.Cond.instanceMethod ({ cls := "ExpenseClubs", name := "line", desc := "(II)Z" } : Jvm.MethodName)) ∈ lw_tbl := List.mem_of_getElem? (i := 255) rfl
set_option maxRecDepth 100000 in
theorem wd_232 : (Jvm.Cond.selects "ExpenseClubs" ({ cls := "ExpenseClubs", name := "line", desc := "(II)Z" } : Jvm.MethodName) ({ cls := "ExpenseClubs", name := "line", desc := "(II)Z" } : Jvm.MethodName)) ∈ lw_tbl := List.mem_of_getElem? (i := 256) rfl
set_option maxRecDepth 100000 in
theorem wd_233 : (Jvm.Cond.code ({ cls := "ExpenseClubs", name := "line", desc := "(II)Z" } : Jvm.MethodName) prog_1_method_8_code (4 : Nat) (Option.some Jvm.ClassFile.FieldType.boolean)) ∈ lw_tbl := List.mem_of_getElem? (i := 257) rfl
set_option maxRecDepth 100000 in
theorem wd_234 : (Jvm.Cond.methodLink "ExpenseClubs" (91 : Nat) ({ cls := "ExpenseClubs$Club", name := "presentSet", desc := "()I" } : Jvm.MethodName)) ∈ lw_tbl := List.mem_of_getElem? (i := 258) rfl
set_option maxRecDepth 100000 in
theorem wd_235 : (Jvm.Cond.instanceMethod ({ cls := "ExpenseClubs$Club", name := "presentSet", desc := "()I" } : Jvm.MethodName)) ∈ lw_tbl := List.mem_of_getElem? (i := 259) rfl
set_option maxRecDepth 100000 in
theorem wd_236 : (Jvm.Cond.selects "ExpenseClubs$Club" ({ cls := "ExpenseClubs$Club", name := "presentSet", desc := "()I" } : Jvm.MethodName) ({ cls := "ExpenseClubs$Club", name := "presentSet", desc := "()I" } : Jvm.MethodName)) ∈ lw_tbl := List.mem_of_getElem? (i := 260) rfl
set_option maxRecDepth 100000 in
theorem wd_237 : (Jvm.Cond.code ({ cls := "ExpenseClubs$Club", name := "presentSet", desc := "()I" } : Jvm.MethodName) prog_3_method_5_code (1 : Nat) (Option.some Jvm.ClassFile.FieldType.int)) ∈ lw_tbl := List.mem_of_getElem? (i := 261) rfl
set_option maxRecDepth 100000 in
theorem wd_238 : (Jvm.Cond.methodLink "ExpenseClubs" (98 : Nat) ({ cls := "ExpenseClubs$Draft", name := "addLine", desc := "(II)V" } : Jvm.MethodName)) ∈ lw_tbl := List.mem_of_getElem? (i := 262) rfl
set_option maxRecDepth 100000 in
theorem wd_239 : (Jvm.Cond.instanceMethod ({ cls := "ExpenseClubs$Draft", name := "addLine", desc := "(II)V" } : Jvm.MethodName)) ∈ lw_tbl := List.mem_of_getElem? (i := 263) rfl
set_option maxRecDepth 100000 in
theorem wd_240 : (Jvm.Cond.selects "ExpenseClubs$Draft" ({ cls := "ExpenseClubs$Draft", name := "addLine", desc := "(II)V" } : Jvm.MethodName) ({ cls := "ExpenseClubs$Draft", name := "addLine", desc := "(II)V" } : Jvm.MethodName)) ∈ lw_tbl := List.mem_of_getElem? (i := 264) rfl
set_option maxRecDepth 100000 in
theorem wd_241 : (Jvm.Cond.code ({ cls := "ExpenseClubs$Draft", name := "addLine", desc := "(II)V" } : Jvm.MethodName) prog_4_method_3_code (7 : Nat) (Option.none : Option Jvm.ClassFile.FieldType)) ∈ lw_tbl := List.mem_of_getElem? (i := 265) rfl
set_option maxRecDepth 100000 in
theorem wd_242 : (Jvm.Cond.methodLink "ExpenseClubs$Draft" (35 : Nat) ({ cls := "java/lang/Integer", name := "bitCount", desc := "(I)I" } : Jvm.MethodName)) ∈ lw_tbl := List.mem_of_getElem? (i := 266) rfl
set_option maxRecDepth 100000 in
theorem wd_243 : (Jvm.Cond.static ({ cls := "java/lang/Integer", name := "bitCount", desc := "(I)I" } : Jvm.MethodName)) ∈ lw_tbl := List.mem_of_getElem? (i := 267) rfl
set_option maxRecDepth 100000 in
theorem wd_244 : (Jvm.Cond.code ({ cls := "java/lang/Integer", name := "bitCount", desc := "(I)I" } : Jvm.MethodName) prog_12_method_49_code (1 : Nat) (Option.some Jvm.ClassFile.FieldType.int)) ∈ lw_tbl := List.mem_of_getElem? (i := 268) rfl
set_option maxRecDepth 100000 in
theorem wd_245 : (Jvm.Cond.constant "java/lang/Integer" (265 : Nat) (1431655765 : Int32)) ∈ lw_tbl := List.mem_of_getElem? (i := 269) rfl
set_option maxRecDepth 100000 in
theorem wd_246 : (Jvm.Cond.constant "java/lang/Integer" (266 : Nat) (858993459 : Int32)) ∈ lw_tbl := List.mem_of_getElem? (i := 270) rfl
set_option maxRecDepth 100000 in
theorem wd_247 : (Jvm.Cond.constant "java/lang/Integer" (267 : Nat) (252645135 : Int32)) ∈ lw_tbl := List.mem_of_getElem? (i := 271) rfl
set_option maxRecDepth 100000 in
theorem wd_248 : (Jvm.Cond.methodLink "ExpenseClubsLaw" (53 : Nat) ({ cls := "ExpenseClubs", name := "post", desc := "()I" } : Jvm.MethodName)) ∈ lw_tbl := List.mem_of_getElem? (i := 272) rfl
set_option maxRecDepth 100000 in
theorem wd_249 : (Jvm.Cond.instanceMethod ({ cls := "ExpenseClubs", name := "post", desc := "()I" } : Jvm.MethodName)) ∈ lw_tbl := List.mem_of_getElem? (i := 273) rfl
set_option maxRecDepth 100000 in
theorem wd_250 : (Jvm.Cond.selects "ExpenseClubs" ({ cls := "ExpenseClubs", name := "post", desc := "()I" } : Jvm.MethodName) ({ cls := "ExpenseClubs", name := "post", desc := "()I" } : Jvm.MethodName)) ∈ lw_tbl := List.mem_of_getElem? (i := 274) rfl
set_option maxRecDepth 100000 in
theorem wd_251 : (Jvm.Cond.code ({ cls := "ExpenseClubs", name := "post", desc := "()I" } : Jvm.MethodName) prog_1_method_9_code (4 : Nat) (Option.some Jvm.ClassFile.FieldType.int)) ∈ lw_tbl := List.mem_of_getElem? (i := 275) rfl
set_option maxRecDepth 100000 in
theorem wd_252 : (Jvm.Cond.methodLink "ExpenseClubs" (102 : Nat) ({ cls := "ExpenseClubs", name := "refusalOfPost", desc := "(LExpenseClubs$Club;)I" } : Jvm.MethodName)) ∈ lw_tbl := List.mem_of_getElem? (i := 276) rfl
set_option maxRecDepth 100000 in
theorem wd_253 : (Jvm.Cond.privateMethod ({ cls := "ExpenseClubs", name := "refusalOfPost", desc := "(LExpenseClubs$Club;)I" } : Jvm.MethodName)) ∈ lw_tbl := List.mem_of_getElem? (i := 277) rfl
set_option maxRecDepth 100000 in
theorem wd_254 : (Jvm.Cond.instanceMethod ({ cls := "ExpenseClubs", name := "refusalOfPost", desc := "(LExpenseClubs$Club;)I" } : Jvm.MethodName)) ∈ lw_tbl := List.mem_of_getElem? (i := 278) rfl
set_option maxRecDepth 100000 in
theorem wd_255 : (Jvm.Cond.code ({ cls := "ExpenseClubs", name := "refusalOfPost", desc := "(LExpenseClubs$Club;)I" } : Jvm.MethodName) prog_1_method_24_code (2 : Nat) (Option.some Jvm.ClassFile.FieldType.int)) ∈ lw_tbl := List.mem_of_getElem? (i := 279) rfl
set_option maxRecDepth 100000 in
theorem wd_256 : (Jvm.Cond.methodLink "ExpenseClubs" (198 : Nat) ({ cls := "ExpenseClubs$Draft", name := "refusalFor", desc := "(LExpenseClubs$Club;)I" } : Jvm.MethodName)) ∈ lw_tbl := List.mem_of_getElem? (i := 280) rfl
set_option maxRecDepth 100000 in
theorem wd_257 : (Jvm.Cond.instanceMethod ({ cls := "ExpenseClubs$Draft", name := "refusalFor", desc := "(LExpenseClubs$Club;)I" } : Jvm.MethodName)) ∈ lw_tbl := List.mem_of_getElem? (i := 281) rfl
set_option maxRecDepth 100000 in
theorem wd_258 : (Jvm.Cond.selects "ExpenseClubs$Draft" ({ cls := "ExpenseClubs$Draft", name := "refusalFor", desc := "(LExpenseClubs$Club;)I" } : Jvm.MethodName) ({ cls := "ExpenseClubs$Draft", name := "refusalFor", desc := "(LExpenseClubs$Club;)I" } : Jvm.MethodName)) ∈ lw_tbl := List.mem_of_getElem? (i := 282) rfl
set_option maxRecDepth 100000 in
theorem wd_259 : (Jvm.Cond.code ({ cls := "ExpenseClubs$Draft", name := "refusalFor", desc := "(LExpenseClubs$Club;)I" } : Jvm.MethodName) prog_4_method_4_code (4 : Nat) (Option.some Jvm.ClassFile.FieldType.int)) ∈ lw_tbl := List.mem_of_getElem? (i := 283) rfl
set_option maxRecDepth 100000 in
theorem wd_260 : (Jvm.Cond.methodLink "ExpenseClubs$Draft" (41 : Nat) ({ cls := "ExpenseClubs$Club", name := "isGone", desc := "(I)Z" } : Jvm.MethodName)) ∈ lw_tbl := List.mem_of_getElem? (i := 284) rfl
set_option maxRecDepth 100000 in
theorem wd_261 : (Jvm.Cond.methodLinkNest "ExpenseClubs$Draft" (47 : Nat) ({ cls := "ExpenseClubs", name := "sumOf", desc := "([J)J" } : Jvm.MethodName) "ExpenseClubs") ∈ lw_tbl := List.mem_of_getElem? (i := 285) rfl
set_option maxRecDepth 100000 in
theorem wd_262 : (Jvm.Cond.static ({ cls := "ExpenseClubs", name := "sumOf", desc := "([J)J" } : Jvm.MethodName)) ∈ lw_tbl := List.mem_of_getElem? (i := 286) rfl
set_option maxRecDepth 100000 in
theorem wd_263 : (Jvm.Cond.code ({ cls := "ExpenseClubs", name := "sumOf", desc := "([J)J" } : Jvm.MethodName) prog_1_method_26_code (4 : Nat) (Option.some Jvm.ClassFile.FieldType.long)) ∈ lw_tbl := List.mem_of_getElem? (i := 287) rfl
set_option maxRecDepth 100000 in
theorem wd_264 : (Jvm.Cond.methodLink "ExpenseClubs$Draft" (51 : Nat) ({ cls := "ExpenseClubs$Draft", name := "dueSum", desc := "(J)J" } : Jvm.MethodName)) ∈ lw_tbl := List.mem_of_getElem? (i := 288) rfl
set_option maxRecDepth 100000 in
theorem wd_265 : (Jvm.Cond.privateMethod ({ cls := "ExpenseClubs$Draft", name := "dueSum", desc := "(J)J" } : Jvm.MethodName)) ∈ lw_tbl := List.mem_of_getElem? (i := 289) rfl
set_option maxRecDepth 100000 in
theorem wd_266 : (Jvm.Cond.instanceMethod ({ cls := "ExpenseClubs$Draft", name := "dueSum", desc := "(J)J" } : Jvm.MethodName)) ∈ lw_tbl := List.mem_of_getElem? (i := 290) rfl
set_option maxRecDepth 100000 in
theorem wd_267 : (Jvm.Cond.code ({ cls := "ExpenseClubs$Draft", name := "dueSum", desc := "(J)J" } : Jvm.MethodName) prog_4_method_5_code (3 : Nat) (Option.some Jvm.ClassFile.FieldType.long)) ∈ lw_tbl := List.mem_of_getElem? (i := 291) rfl
set_option maxRecDepth 100000 in
theorem wd_268 : (Jvm.Cond.constantLong "ExpenseClubs$Draft" (55 : Nat) (10000 : Int64)) ∈ lw_tbl := List.mem_of_getElem? (i := 292) rfl
set_option maxRecDepth 100000 in
theorem wd_269 : (Jvm.Cond.constantLong "ExpenseClubs$Draft" (57 : Nat) (27720 : Int64)) ∈ lw_tbl := List.mem_of_getElem? (i := 293) rfl
set_option maxRecDepth 100000 in
theorem wd_270 : (Jvm.Cond.methodLink "ExpenseClubs" (106 : Nat) ({ cls := "ExpenseClubs$Draft", name := "toBill", desc := "(LExpenseClubs$Club;)LExpenseClubs$Bill;" } : Jvm.MethodName)) ∈ lw_tbl := List.mem_of_getElem? (i := 294) rfl
set_option maxRecDepth 100000 in
theorem wd_271 : (Jvm.Cond.instanceMethod ({ cls := "ExpenseClubs$Draft", name := "toBill", desc := "(LExpenseClubs$Club;)LExpenseClubs$Bill;" } : Jvm.MethodName)) ∈ lw_tbl := List.mem_of_getElem? (i := 295) rfl
set_option maxRecDepth 100000 in
theorem wd_272 : (Jvm.Cond.selects "ExpenseClubs$Draft" ({ cls := "ExpenseClubs$Draft", name := "toBill", desc := "(LExpenseClubs$Club;)LExpenseClubs$Bill;" } : Jvm.MethodName) ({ cls := "ExpenseClubs$Draft", name := "toBill", desc := "(LExpenseClubs$Club;)LExpenseClubs$Bill;" } : Jvm.MethodName)) ∈ lw_tbl := List.mem_of_getElem? (i := 296) rfl
set_option maxRecDepth 100000 in
theorem wd_273 : (Jvm.Cond.code ({ cls := "ExpenseClubs$Draft", name := "toBill", desc := "(LExpenseClubs$Club;)LExpenseClubs$Bill;" } : Jvm.MethodName) prog_4_method_6_code (8 : Nat) (Option.some (Jvm.ClassFile.FieldType.object "ExpenseClubs$Bill"))) ∈ lw_tbl := List.mem_of_getElem? (i := 297) rfl
set_option maxRecDepth 100000 in
theorem wd_274 : (Jvm.Cond.classLink "ExpenseClubs$Draft" (59 : Nat) "ExpenseClubs$Bill") ∈ lw_tbl := List.mem_of_getElem? (i := 298) rfl
set_option maxRecDepth 100000 in
theorem wd_275 : (Jvm.Cond.instantiable "ExpenseClubs$Bill" (6 : Nat)) ∈ lw_tbl := List.mem_of_getElem? (i := 299) rfl
set_option maxRecDepth 100000 in
theorem wd_276 : (Jvm.Cond.constantLong "ExpenseClubs$Draft" (61 : Nat) (500000 : Int64)) ∈ lw_tbl := List.mem_of_getElem? (i := 300) rfl
set_option maxRecDepth 100000 in
theorem wd_277 : (Jvm.Cond.constantLong "ExpenseClubs$Draft" (63 : Nat) (1000000 : Int64)) ∈ lw_tbl := List.mem_of_getElem? (i := 301) rfl
set_option maxRecDepth 100000 in
theorem wd_278 : (Jvm.Cond.methodLink "ExpenseClubs$Draft" (65 : Nat) ({ cls := "ExpenseClubs$Bill", name := "<init>", desc := "(LExpenseClubs$Club;J)V" } : Jvm.MethodName)) ∈ lw_tbl := List.mem_of_getElem? (i := 302) rfl
set_option maxRecDepth 100000 in
theorem wd_279 : (Jvm.Cond.instanceMethod ({ cls := "ExpenseClubs$Bill", name := "<init>", desc := "(LExpenseClubs$Club;J)V" } : Jvm.MethodName)) ∈ lw_tbl := List.mem_of_getElem? (i := 303) rfl
set_option maxRecDepth 100000 in
theorem wd_280 : (Jvm.Cond.code ({ cls := "ExpenseClubs$Bill", name := "<init>", desc := "(LExpenseClubs$Club;J)V" } : Jvm.MethodName) prog_2_method_1_code (4 : Nat) (Option.none : Option Jvm.ClassFile.FieldType)) ∈ lw_tbl := List.mem_of_getElem? (i := 304) rfl
set_option maxRecDepth 100000 in
theorem wd_281 : (Jvm.Cond.methodLink "ExpenseClubs$Bill" (3 : Nat) ({ cls := "java/lang/Object", name := "<init>", desc := "()V" } : Jvm.MethodName)) ∈ lw_tbl := List.mem_of_getElem? (i := 305) rfl
set_option maxRecDepth 100000 in
theorem wd_282 : (Jvm.Cond.fieldLink "ExpenseClubs$Bill" (21 : Nat) "ExpenseClubs$Bill" "owner" "LExpenseClubs$Club;") ∈ lw_tbl := List.mem_of_getElem? (i := 306) rfl
set_option maxRecDepth 100000 in
theorem wd_283 : (Jvm.Cond.fieldLink "ExpenseClubs" (124 : Nat) "ExpenseClubs$Bill" "owner" "LExpenseClubs$Club;") ∈ lw_tbl := List.mem_of_getElem? (i := 307) rfl
set_option maxRecDepth 100000 in
theorem wd_284 : (Jvm.Cond.fieldLink "ExpenseClubs$Bill" (25 : Nat) "ExpenseClubs$Bill" "clubCents" "J") ∈ lw_tbl := List.mem_of_getElem? (i := 308) rfl
set_option maxRecDepth 100000 in
theorem wd_285 : (Jvm.Cond.fieldLink "ExpenseClubs$Draft" (68 : Nat) "ExpenseClubs$Bill" "clubCents" "J") ∈ lw_tbl := List.mem_of_getElem? (i := 309) rfl
set_option maxRecDepth 100000 in
theorem wd_286 : (Jvm.Cond.fieldLink "ExpenseClubs" (138 : Nat) "ExpenseClubs$Bill" "clubCents" "J") ∈ lw_tbl := List.mem_of_getElem? (i := 310) rfl
set_option maxRecDepth 100000 in
theorem wd_287 : (Jvm.Cond.fieldLink "ExpenseClubs$Bill" (9 : Nat) "ExpenseClubs$Bill" "paid" "[J") ∈ lw_tbl := List.mem_of_getElem? (i := 311) rfl
set_option maxRecDepth 100000 in
theorem wd_288 : (Jvm.Cond.fieldLink "ExpenseClubs$Club" (39 : Nat) "ExpenseClubs$Bill" "paid" "[J") ∈ lw_tbl := List.mem_of_getElem? (i := 312) rfl
set_option maxRecDepth 100000 in
theorem wd_289 : (Jvm.Cond.fieldLink "ExpenseClubs$Draft" (72 : Nat) "ExpenseClubs$Bill" "paid" "[J") ∈ lw_tbl := List.mem_of_getElem? (i := 313) rfl
set_option maxRecDepth 100000 in
theorem wd_290 : (Jvm.Cond.fieldLink "ExpenseClubs" (132 : Nat) "ExpenseClubs$Bill" "paid" "[J") ∈ lw_tbl := List.mem_of_getElem? (i := 314) rfl
set_option maxRecDepth 100000 in
theorem wd_291 : (Jvm.Cond.fieldLink "ExpenseClubs$Bill" (15 : Nat) "ExpenseClubs$Bill" "shares" "[J") ∈ lw_tbl := List.mem_of_getElem? (i := 315) rfl
set_option maxRecDepth 100000 in
theorem wd_292 : (Jvm.Cond.fieldLink "ExpenseClubs$Club" (44 : Nat) "ExpenseClubs$Bill" "shares" "[J") ∈ lw_tbl := List.mem_of_getElem? (i := 316) rfl
set_option maxRecDepth 100000 in
theorem wd_293 : (Jvm.Cond.fieldLink "ExpenseClubs$Draft" (82 : Nat) "ExpenseClubs$Bill" "shares" "[J") ∈ lw_tbl := List.mem_of_getElem? (i := 317) rfl
set_option maxRecDepth 100000 in
theorem wd_294 : (Jvm.Cond.fieldLink "ExpenseClubs" (129 : Nat) "ExpenseClubs$Bill" "shares" "[J") ∈ lw_tbl := List.mem_of_getElem? (i := 318) rfl
set_option maxRecDepth 100000 in
theorem wd_295 : (Jvm.Cond.fieldLink "ExpenseClubs$Bill" (18 : Nat) "ExpenseClubs$Bill" "drifts" "[J") ∈ lw_tbl := List.mem_of_getElem? (i := 319) rfl
set_option maxRecDepth 100000 in
theorem wd_296 : (Jvm.Cond.fieldLink "ExpenseClubs$Club" (47 : Nat) "ExpenseClubs$Bill" "drifts" "[J") ∈ lw_tbl := List.mem_of_getElem? (i := 320) rfl
set_option maxRecDepth 100000 in
theorem wd_297 : (Jvm.Cond.fieldLink "ExpenseClubs$Draft" (91 : Nat) "ExpenseClubs$Bill" "drifts" "[J") ∈ lw_tbl := List.mem_of_getElem? (i := 321) rfl
set_option maxRecDepth 100000 in
theorem wd_298 : (Jvm.Cond.fieldLink "ExpenseClubs" (135 : Nat) "ExpenseClubs$Bill" "drifts" "[J") ∈ lw_tbl := List.mem_of_getElem? (i := 322) rfl
set_option maxRecDepth 100000 in
theorem wd_299 : (Jvm.Cond.fieldLink "ExpenseClubs" (121 : Nat) "ExpenseClubs$Bill" "struck" "Z") ∈ lw_tbl := List.mem_of_getElem? (i := 323) rfl
set_option maxRecDepth 100000 in
theorem wd_300 : (Jvm.Cond.laysFinal "ExpenseClubs$Bill" "ExpenseClubs$Bill" "owner" "LExpenseClubs$Club;") ∈ lw_tbl := List.mem_of_getElem? (i := 324) rfl
set_option maxRecDepth 100000 in
theorem wd_301 : (Jvm.Cond.soleField "ExpenseClubs$Bill" "owner") ∈ lw_tbl := List.mem_of_getElem? (i := 325) rfl
set_option maxRecDepth 100000 in
theorem wd_302 : (Jvm.Cond.laysFinal "ExpenseClubs$Bill" "ExpenseClubs$Bill" "clubCents" "J") ∈ lw_tbl := List.mem_of_getElem? (i := 326) rfl
set_option maxRecDepth 100000 in
theorem wd_303 : (Jvm.Cond.soleField "ExpenseClubs$Bill" "clubCents") ∈ lw_tbl := List.mem_of_getElem? (i := 327) rfl
set_option maxRecDepth 100000 in
theorem wd_304 : (Jvm.Cond.laysFinal "ExpenseClubs$Bill" "ExpenseClubs$Bill" "paid" "[J") ∈ lw_tbl := List.mem_of_getElem? (i := 328) rfl
set_option maxRecDepth 100000 in
theorem wd_305 : (Jvm.Cond.soleField "ExpenseClubs$Bill" "paid") ∈ lw_tbl := List.mem_of_getElem? (i := 329) rfl
set_option maxRecDepth 100000 in
theorem wd_306 : (Jvm.Cond.laysFinal "ExpenseClubs$Bill" "ExpenseClubs$Bill" "shares" "[J") ∈ lw_tbl := List.mem_of_getElem? (i := 330) rfl
set_option maxRecDepth 100000 in
theorem wd_307 : (Jvm.Cond.soleField "ExpenseClubs$Bill" "shares") ∈ lw_tbl := List.mem_of_getElem? (i := 331) rfl
set_option maxRecDepth 100000 in
theorem wd_308 : (Jvm.Cond.laysFinal "ExpenseClubs$Bill" "ExpenseClubs$Bill" "drifts" "[J") ∈ lw_tbl := List.mem_of_getElem? (i := 332) rfl
set_option maxRecDepth 100000 in
theorem wd_309 : (Jvm.Cond.soleField "ExpenseClubs$Bill" "drifts") ∈ lw_tbl := List.mem_of_getElem? (i := 333) rfl
set_option maxRecDepth 100000 in
theorem wd_310 : (Jvm.Cond.lays "ExpenseClubs$Bill" "ExpenseClubs$Bill" "struck" "Z") ∈ lw_tbl := List.mem_of_getElem? (i := 334) rfl
set_option maxRecDepth 100000 in
theorem wd_311 : (Jvm.Cond.soleField "ExpenseClubs$Bill" "struck") ∈ lw_tbl := List.mem_of_getElem? (i := 335) rfl
set_option maxRecDepth 100000 in
theorem wd_312 : (Jvm.Cond.superclass "ExpenseClubs$Bill" "java/lang/Object") ∈ lw_tbl := List.mem_of_getElem? (i := 336) rfl
set_option maxRecDepth 100000 in
theorem wd_313 : (Jvm.Cond.methodLinkNest "ExpenseClubs$Draft" (75 : Nat) ({ cls := "ExpenseClubs", name := "cut", desc := "(J[JI[J)I" } : Jvm.MethodName) "ExpenseClubs") ∈ lw_tbl := List.mem_of_getElem? (i := 337) rfl
set_option maxRecDepth 100000 in
theorem wd_314 : (Jvm.Cond.static ({ cls := "ExpenseClubs", name := "cut", desc := "(J[JI[J)I" } : Jvm.MethodName)) ∈ lw_tbl := List.mem_of_getElem? (i := 338) rfl
set_option maxRecDepth 100000 in
theorem wd_315 : (Jvm.Cond.code ({ cls := "ExpenseClubs", name := "cut", desc := "(J[JI[J)I" } : Jvm.MethodName) prog_1_method_28_code (12 : Nat) (Option.some Jvm.ClassFile.FieldType.int)) ∈ lw_tbl := List.mem_of_getElem? (i := 339) rfl
set_option maxRecDepth 100000 in
theorem wd_316 : (Jvm.Cond.methodLink "ExpenseClubs" (203 : Nat) ({ cls := "ExpenseClubs", name := "sumOf", desc := "([J)J" } : Jvm.MethodName)) ∈ lw_tbl := List.mem_of_getElem? (i := 340) rfl
set_option maxRecDepth 100000 in
theorem wd_317 : (Jvm.Cond.methodLink "ExpenseClubs" (207 : Nat) ({ cls := "ExpenseClubs", name := "portion", desc := "(JJJ)J" } : Jvm.MethodName)) ∈ lw_tbl := List.mem_of_getElem? (i := 341) rfl
set_option maxRecDepth 100000 in
theorem wd_318 : (Jvm.Cond.static ({ cls := "ExpenseClubs", name := "portion", desc := "(JJJ)J" } : Jvm.MethodName)) ∈ lw_tbl := List.mem_of_getElem? (i := 342) rfl
set_option maxRecDepth 100000 in
theorem wd_319 : (Jvm.Cond.code ({ cls := "ExpenseClubs", name := "portion", desc := "(JJJ)J" } : Jvm.MethodName) prog_1_method_27_code (15 : Nat) (Option.some Jvm.ClassFile.FieldType.long)) ∈ lw_tbl := List.mem_of_getElem? (i := 343) rfl
set_option maxRecDepth 100000 in
theorem wd_320 : (Jvm.Cond.constantLong "ExpenseClubs" (201 : Nat) (1048575 : Int64)) ∈ lw_tbl := List.mem_of_getElem? (i := 344) rfl
set_option maxRecDepth 100000 in
theorem wd_321 : (Jvm.Cond.constantLong "ExpenseClubs$Draft" (85 : Nat) (1000 : Int64)) ∈ lw_tbl := List.mem_of_getElem? (i := 345) rfl
set_option maxRecDepth 100000 in
theorem wd_322 : (Jvm.Cond.methodLinkNest "ExpenseClubs$Draft" (87 : Nat) ({ cls := "ExpenseClubs", name := "portion", desc := "(JJJ)J" } : Jvm.MethodName) "ExpenseClubs") ∈ lw_tbl := List.mem_of_getElem? (i := 346) rfl
set_option maxRecDepth 100000 in
theorem wd_323 : (Jvm.Cond.methodLink "ExpenseClubs" (110 : Nat) ({ cls := "ExpenseClubs$Club", name := "book", desc := "(LExpenseClubs$Bill;I)V" } : Jvm.MethodName)) ∈ lw_tbl := List.mem_of_getElem? (i := 347) rfl
set_option maxRecDepth 100000 in
theorem wd_324 : (Jvm.Cond.instanceMethod ({ cls := "ExpenseClubs$Club", name := "book", desc := "(LExpenseClubs$Bill;I)V" } : Jvm.MethodName)) ∈ lw_tbl := List.mem_of_getElem? (i := 348) rfl
set_option maxRecDepth 100000 in
theorem wd_325 : (Jvm.Cond.selects "ExpenseClubs$Club" ({ cls := "ExpenseClubs$Club", name := "book", desc := "(LExpenseClubs$Bill;I)V" } : Jvm.MethodName) ({ cls := "ExpenseClubs$Club", name := "book", desc := "(LExpenseClubs$Bill;I)V" } : Jvm.MethodName)) ∈ lw_tbl := List.mem_of_getElem? (i := 349) rfl
set_option maxRecDepth 100000 in
theorem wd_326 : (Jvm.Cond.code ({ cls := "ExpenseClubs$Club", name := "book", desc := "(LExpenseClubs$Bill;I)V" } : Jvm.MethodName) prog_3_method_6_code (4 : Nat) (Option.none : Option Jvm.ClassFile.FieldType)) ∈ lw_tbl := List.mem_of_getElem? (i := 350) rfl
set_option maxRecDepth 100000 in
theorem wd_327 : (Jvm.Cond.methodLink "ExpenseClubsLaw" (57 : Nat) ({ cls := "ExpenseClubs", name := "strike", desc := "(I)Z" } : Jvm.MethodName)) ∈ lw_tbl := List.mem_of_getElem? (i := 351) rfl
set_option maxRecDepth 100000 in
theorem wd_328 : (Jvm.Cond.instanceMethod ({ cls := "ExpenseClubs", name := "strike", desc := "(I)Z" } : Jvm.MethodName)) ∈ lw_tbl := List.mem_of_getElem? (i := 352) rfl
set_option maxRecDepth 100000 in
theorem wd_329 : (Jvm.Cond.selects "ExpenseClubs" ({ cls := "ExpenseClubs", name := "strike", desc := "(I)Z" } : Jvm.MethodName) ({ cls := "ExpenseClubs", name := "strike", desc := "(I)Z" } : Jvm.MethodName)) ∈ lw_tbl := List.mem_of_getElem? (i := 353) rfl
set_option maxRecDepth 100000 in
theorem wd_330 : (Jvm.Cond.code ({ cls := "ExpenseClubs", name := "strike", desc := "(I)Z" } : Jvm.MethodName) prog_1_method_10_code (3 : Nat) (Option.some Jvm.ClassFile.FieldType.boolean)) ∈ lw_tbl := List.mem_of_getElem? (i := 354) rfl
set_option maxRecDepth 100000 in
theorem wd_331 : (Jvm.Cond.methodLink "ExpenseClubs" (117 : Nat) ({ cls := "ExpenseClubs", name := "billAt", desc := "(I)LExpenseClubs$Bill;" } : Jvm.MethodName)) ∈ lw_tbl := List.mem_of_getElem? (i := 355) rfl
set_option maxRecDepth 100000 in
theorem wd_332 : (Jvm.Cond.privateMethod ({ cls := "ExpenseClubs", name := "billAt", desc := "(I)LExpenseClubs$Bill;" } : Jvm.MethodName)) ∈ lw_tbl := List.mem_of_getElem? (i := 356) rfl
set_option maxRecDepth 100000 in
theorem wd_333 : (Jvm.Cond.instanceMethod ({ cls := "ExpenseClubs", name := "billAt", desc := "(I)LExpenseClubs$Bill;" } : Jvm.MethodName)) ∈ lw_tbl := List.mem_of_getElem? (i := 357) rfl
set_option maxRecDepth 100000 in
theorem wd_334 : (Jvm.Cond.code ({ cls := "ExpenseClubs", name := "billAt", desc := "(I)LExpenseClubs$Bill;" } : Jvm.MethodName) prog_1_method_23_code (2 : Nat) (Option.some (Jvm.ClassFile.FieldType.object "ExpenseClubs$Bill"))) ∈ lw_tbl := List.mem_of_getElem? (i := 358) rfl
set_option maxRecDepth 100000 in
theorem wd_335 : (Jvm.Cond.methodLink "ExpenseClubsLaw" (62 : Nat) ({ cls := "ExpenseClubs", name := "about", desc := "(III)J" } : Jvm.MethodName)) ∈ lw_tbl := List.mem_of_getElem? (i := 359) rfl
set_option maxRecDepth 100000 in
theorem wd_336 : (Jvm.Cond.instanceMethod ({ cls := "ExpenseClubs", name := "about", desc := "(III)J" } : Jvm.MethodName)) ∈ lw_tbl := List.mem_of_getElem? (i := 360) rfl
set_option maxRecDepth 100000 in
theorem wd_337 : (Jvm.Cond.selects "ExpenseClubs" ({ cls := "ExpenseClubs", name := "about", desc := "(III)J" } : Jvm.MethodName) ({ cls := "ExpenseClubs", name := "about", desc := "(III)J" } : Jvm.MethodName)) ∈ lw_tbl := List.mem_of_getElem? (i := 361) rfl
set_option maxRecDepth 100000 in
theorem wd_338 : (Jvm.Cond.code ({ cls := "ExpenseClubs", name := "about", desc := "(III)J" } : Jvm.MethodName) prog_1_method_11_code (5 : Nat) (Option.some Jvm.ClassFile.FieldType.long)) ∈ lw_tbl := List.mem_of_getElem? (i := 362) rfl
set_option maxRecDepth 100000 in
theorem wd_339 : (Jvm.Cond.constantLong "ExpenseClubs" (127 : Nat) (-1 : Int64)) ∈ lw_tbl := List.mem_of_getElem? (i := 363) rfl
set_option maxRecDepth 100000 in
theorem wd_340 : (Jvm.Cond.methodLink "ExpenseClubsLaw" (66 : Nat) ({ cls := "ExpenseClubs", name := "total", desc := "(I)J" } : Jvm.MethodName)) ∈ lw_tbl := List.mem_of_getElem? (i := 364) rfl
set_option maxRecDepth 100000 in
theorem wd_341 : (Jvm.Cond.instanceMethod ({ cls := "ExpenseClubs", name := "total", desc := "(I)J" } : Jvm.MethodName)) ∈ lw_tbl := List.mem_of_getElem? (i := 365) rfl
set_option maxRecDepth 100000 in
theorem wd_342 : (Jvm.Cond.selects "ExpenseClubs" ({ cls := "ExpenseClubs", name := "total", desc := "(I)J" } : Jvm.MethodName) ({ cls := "ExpenseClubs", name := "total", desc := "(I)J" } : Jvm.MethodName)) ∈ lw_tbl := List.mem_of_getElem? (i := 366) rfl
set_option maxRecDepth 100000 in
theorem wd_343 : (Jvm.Cond.code ({ cls := "ExpenseClubs", name := "total", desc := "(I)J" } : Jvm.MethodName) prog_1_method_12_code (3 : Nat) (Option.some Jvm.ClassFile.FieldType.long)) ∈ lw_tbl := List.mem_of_getElem? (i := 367) rfl
set_option maxRecDepth 100000 in
theorem wd_344 : (Jvm.Cond.methodLink "ExpenseClubsLaw" (71 : Nat) ({ cls := "ExpenseClubs", name := "balance", desc := "(II)J" } : Jvm.MethodName)) ∈ lw_tbl := List.mem_of_getElem? (i := 368) rfl
set_option maxRecDepth 100000 in
theorem wd_345 : (Jvm.Cond.instanceMethod ({ cls := "ExpenseClubs", name := "balance", desc := "(II)J" } : Jvm.MethodName)) ∈ lw_tbl := List.mem_of_getElem? (i := 369) rfl
set_option maxRecDepth 100000 in
theorem wd_346 : (Jvm.Cond.selects "ExpenseClubs" ({ cls := "ExpenseClubs", name := "balance", desc := "(II)J" } : Jvm.MethodName) ({ cls := "ExpenseClubs", name := "balance", desc := "(II)J" } : Jvm.MethodName)) ∈ lw_tbl := List.mem_of_getElem? (i := 370) rfl
set_option maxRecDepth 100000 in
theorem wd_347 : (Jvm.Cond.code ({ cls := "ExpenseClubs", name := "balance", desc := "(II)J" } : Jvm.MethodName) prog_1_method_13_code (4 : Nat) (Option.some Jvm.ClassFile.FieldType.long)) ∈ lw_tbl := List.mem_of_getElem? (i := 371) rfl
set_option maxRecDepth 100000 in
theorem wd_348 : (Jvm.Cond.methodLink "ExpenseClubs" (142 : Nat) ({ cls := "ExpenseClubs$Club", name := "isMember", desc := "(I)Z" } : Jvm.MethodName)) ∈ lw_tbl := List.mem_of_getElem? (i := 372) rfl
set_option maxRecDepth 100000 in
theorem wd_349 : (Jvm.Cond.methodLink "ExpenseClubsLaw" (76 : Nat) ({ cls := "ExpenseClubs", name := "drift", desc := "(II)J" } : Jvm.MethodName)) ∈ lw_tbl := List.mem_of_getElem? (i := 373) rfl
set_option maxRecDepth 100000 in
theorem wd_350 : (Jvm.Cond.instanceMethod ({ cls := "ExpenseClubs", name := "drift", desc := "(II)J" } : Jvm.MethodName)) ∈ lw_tbl := List.mem_of_getElem? (i := 374) rfl
set_option maxRecDepth 100000 in
theorem wd_351 : (Jvm.Cond.selects "ExpenseClubs" ({ cls := "ExpenseClubs", name := "drift", desc := "(II)J" } : Jvm.MethodName) ({ cls := "ExpenseClubs", name := "drift", desc := "(II)J" } : Jvm.MethodName)) ∈ lw_tbl := List.mem_of_getElem? (i := 375) rfl
set_option maxRecDepth 100000 in
theorem wd_352 : (Jvm.Cond.code ({ cls := "ExpenseClubs", name := "drift", desc := "(II)J" } : Jvm.MethodName) prog_1_method_14_code (4 : Nat) (Option.some Jvm.ClassFile.FieldType.long)) ∈ lw_tbl := List.mem_of_getElem? (i := 376) rfl
set_option maxRecDepth 100000 in
theorem wd_353 : (Jvm.Cond.methodLink "ExpenseClubsLaw" (80 : Nat) ({ cls := "ExpenseClubs", name := "settle", desc := "(I)I" } : Jvm.MethodName)) ∈ lw_tbl := List.mem_of_getElem? (i := 377) rfl
set_option maxRecDepth 100000 in
theorem wd_354 : (Jvm.Cond.instanceMethod ({ cls := "ExpenseClubs", name := "settle", desc := "(I)I" } : Jvm.MethodName)) ∈ lw_tbl := List.mem_of_getElem? (i := 378) rfl
set_option maxRecDepth 100000 in
theorem wd_355 : (Jvm.Cond.selects "ExpenseClubs" ({ cls := "ExpenseClubs", name := "settle", desc := "(I)I" } : Jvm.MethodName) ({ cls := "ExpenseClubs", name := "settle", desc := "(I)I" } : Jvm.MethodName)) ∈ lw_tbl := List.mem_of_getElem? (i := 379) rfl
set_option maxRecDepth 100000 in
theorem wd_356 : (Jvm.Cond.code ({ cls := "ExpenseClubs", name := "settle", desc := "(I)I" } : Jvm.MethodName) prog_1_method_15_code (3 : Nat) (Option.some Jvm.ClassFile.FieldType.int)) ∈ lw_tbl := List.mem_of_getElem? (i := 380) rfl
set_option maxRecDepth 100000 in
theorem wd_357 : (Jvm.Cond.methodLink "ExpenseClubs" (146 : Nat) ({ cls := "ExpenseClubs$Grouping", name := "fill", desc := "(LExpenseClubs$Settlement;[J)V" } : Jvm.MethodName)) ∈ lw_tbl := List.mem_of_getElem? (i := 381) rfl
set_option maxRecDepth 100000 in
theorem wd_358 : (Jvm.Cond.instanceMethod ({ cls := "ExpenseClubs$Grouping", name := "fill", desc := "(LExpenseClubs$Settlement;[J)V" } : Jvm.MethodName)) ∈ lw_tbl := List.mem_of_getElem? (i := 382) rfl
set_option maxRecDepth 100000 in
theorem wd_359 : (Jvm.Cond.selects "ExpenseClubs$Grouping" ({ cls := "ExpenseClubs$Grouping", name := "fill", desc := "(LExpenseClubs$Settlement;[J)V" } : Jvm.MethodName) ({ cls := "ExpenseClubs$Grouping", name := "fill", desc := "(LExpenseClubs$Settlement;[J)V" } : Jvm.MethodName)) ∈ lw_tbl := List.mem_of_getElem? (i := 383) rfl
set_option maxRecDepth 100000 in
theorem wd_360 : (Jvm.Cond.code ({ cls := "ExpenseClubs$Grouping", name := "fill", desc := "(LExpenseClubs$Settlement;[J)V" } : Jvm.MethodName) prog_5_method_2_code (6 : Nat) (Option.none : Option Jvm.ClassFile.FieldType)) ∈ lw_tbl := List.mem_of_getElem? (i := 384) rfl
set_option maxRecDepth 100000 in
theorem wd_361 : (Jvm.Cond.methodLink "ExpenseClubs$Grouping" (22 : Nat) ({ cls := "ExpenseClubs$Grouping", name := "gather", desc := "([J)V" } : Jvm.MethodName)) ∈ lw_tbl := List.mem_of_getElem? (i := 385) rfl
set_option maxRecDepth 100000 in
theorem wd_362 : (Jvm.Cond.privateMethod ({ cls := "ExpenseClubs$Grouping", name := "gather", desc := "([J)V" } : Jvm.MethodName)) ∈ lw_tbl := List.mem_of_getElem? (i := 386) rfl
set_option maxRecDepth 100000 in
theorem wd_363 : (Jvm.Cond.instanceMethod ({ cls := "ExpenseClubs$Grouping", name := "gather", desc := "([J)V" } : Jvm.MethodName)) ∈ lw_tbl := List.mem_of_getElem? (i := 387) rfl
set_option maxRecDepth 100000 in
theorem wd_364 : (Jvm.Cond.code ({ cls := "ExpenseClubs$Grouping", name := "gather", desc := "([J)V" } : Jvm.MethodName) prog_5_method_3_code (3 : Nat) (Option.none : Option Jvm.ClassFile.FieldType)) ∈ lw_tbl := List.mem_of_getElem? (i := 388) rfl
set_option maxRecDepth 100000 in
theorem wd_365 : (Jvm.Cond.methodLink "ExpenseClubs$Grouping" (26 : Nat) ({ cls := "ExpenseClubs$Grouping", name := "countMost", desc := "()V" } : Jvm.MethodName)) ∈ lw_tbl := List.mem_of_getElem? (i := 389) rfl
set_option maxRecDepth 100000 in
theorem wd_366 : (Jvm.Cond.privateMethod ({ cls := "ExpenseClubs$Grouping", name := "countMost", desc := "()V" } : Jvm.MethodName)) ∈ lw_tbl := List.mem_of_getElem? (i := 390) rfl
set_option maxRecDepth 100000 in
theorem wd_367 : (Jvm.Cond.instanceMethod ({ cls := "ExpenseClubs$Grouping", name := "countMost", desc := "()V" } : Jvm.MethodName)) ∈ lw_tbl := List.mem_of_getElem? (i := 391) rfl
set_option maxRecDepth 100000 in
theorem wd_368 : (Jvm.Cond.code ({ cls := "ExpenseClubs$Grouping", name := "countMost", desc := "()V" } : Jvm.MethodName) prog_5_method_4_code (6 : Nat) (Option.none : Option Jvm.ClassFile.FieldType)) ∈ lw_tbl := List.mem_of_getElem? (i := 392) rfl
set_option maxRecDepth 100000 in
theorem wd_369 : (Jvm.Cond.methodLink "ExpenseClubs$Grouping" (46 : Nat) ({ cls := "java/lang/Math", name := "max", desc := "(II)I" } : Jvm.MethodName)) ∈ lw_tbl := List.mem_of_getElem? (i := 393) rfl
set_option maxRecDepth 100000 in
theorem wd_370 : (Jvm.Cond.static ({ cls := "java/lang/Math", name := "max", desc := "(II)I" } : Jvm.MethodName)) ∈ lw_tbl := List.mem_of_getElem? (i := 394) rfl
set_option maxRecDepth 100000 in
theorem wd_371 : (Jvm.Cond.code ({ cls := "java/lang/Math", name := "max", desc := "(II)I" } : Jvm.MethodName) prog_13_method_65_code (2 : Nat) (Option.some Jvm.ClassFile.FieldType.int)) ∈ lw_tbl := List.mem_of_getElem? (i := 395) rfl
set_option maxRecDepth 100000 in
theorem wd_372 : (Jvm.Cond.methodLink "ExpenseClubs$Grouping" (29 : Nat) ({ cls := "ExpenseClubs$Settlement", name := "begin", desc := "()V" } : Jvm.MethodName)) ∈ lw_tbl := List.mem_of_getElem? (i := 396) rfl
set_option maxRecDepth 100000 in
theorem wd_373 : (Jvm.Cond.instanceMethod ({ cls := "ExpenseClubs$Settlement", name := "begin", desc := "()V" } : Jvm.MethodName)) ∈ lw_tbl := List.mem_of_getElem? (i := 397) rfl
set_option maxRecDepth 100000 in
theorem wd_374 : (Jvm.Cond.selects "ExpenseClubs$Settlement" ({ cls := "ExpenseClubs$Settlement", name := "begin", desc := "()V" } : Jvm.MethodName) ({ cls := "ExpenseClubs$Settlement", name := "begin", desc := "()V" } : Jvm.MethodName)) ∈ lw_tbl := List.mem_of_getElem? (i := 398) rfl
set_option maxRecDepth 100000 in
theorem wd_375 : (Jvm.Cond.code ({ cls := "ExpenseClubs$Settlement", name := "begin", desc := "()V" } : Jvm.MethodName) prog_6_method_2_code (2 : Nat) (Option.none : Option Jvm.ClassFile.FieldType)) ∈ lw_tbl := List.mem_of_getElem? (i := 399) rfl
set_option maxRecDepth 100000 in
theorem wd_376 : (Jvm.Cond.methodLink "ExpenseClubs$Grouping" (38 : Nat) ({ cls := "ExpenseClubs$Grouping", name := "firstGroup", desc := "(I)I" } : Jvm.MethodName)) ∈ lw_tbl := List.mem_of_getElem? (i := 400) rfl
set_option maxRecDepth 100000 in
theorem wd_377 : (Jvm.Cond.privateMethod ({ cls := "ExpenseClubs$Grouping", name := "firstGroup", desc := "(I)I" } : Jvm.MethodName)) ∈ lw_tbl := List.mem_of_getElem? (i := 401) rfl
set_option maxRecDepth 100000 in
theorem wd_378 : (Jvm.Cond.instanceMethod ({ cls := "ExpenseClubs$Grouping", name := "firstGroup", desc := "(I)I" } : Jvm.MethodName)) ∈ lw_tbl := List.mem_of_getElem? (i := 402) rfl
set_option maxRecDepth 100000 in
theorem wd_379 : (Jvm.Cond.code ({ cls := "ExpenseClubs$Grouping", name := "firstGroup", desc := "(I)I" } : Jvm.MethodName) prog_5_method_5_code (4 : Nat) (Option.some Jvm.ClassFile.FieldType.int)) ∈ lw_tbl := List.mem_of_getElem? (i := 403) rfl
set_option maxRecDepth 100000 in
theorem wd_380 : (Jvm.Cond.methodLink "ExpenseClubs$Grouping" (52 : Nat) ({ cls := "ExpenseClubs$Grouping", name := "sumOfSet", desc := "(I)J" } : Jvm.MethodName)) ∈ lw_tbl := List.mem_of_getElem? (i := 404) rfl
set_option maxRecDepth 100000 in
theorem wd_381 : (Jvm.Cond.privateMethod ({ cls := "ExpenseClubs$Grouping", name := "sumOfSet", desc := "(I)J" } : Jvm.MethodName)) ∈ lw_tbl := List.mem_of_getElem? (i := 405) rfl
set_option maxRecDepth 100000 in
theorem wd_382 : (Jvm.Cond.instanceMethod ({ cls := "ExpenseClubs$Grouping", name := "sumOfSet", desc := "(I)J" } : Jvm.MethodName)) ∈ lw_tbl := List.mem_of_getElem? (i := 406) rfl
set_option maxRecDepth 100000 in
theorem wd_383 : (Jvm.Cond.code ({ cls := "ExpenseClubs$Grouping", name := "sumOfSet", desc := "(I)J" } : Jvm.MethodName) prog_5_method_6_code (5 : Nat) (Option.some Jvm.ClassFile.FieldType.long)) ∈ lw_tbl := List.mem_of_getElem? (i := 407) rfl
set_option maxRecDepth 100000 in
theorem wd_384 : (Jvm.Cond.methodLink "ExpenseClubs$Grouping" (42 : Nat) ({ cls := "ExpenseClubs$Grouping", name := "addGroup", desc := "(LExpenseClubs$Settlement;I)V" } : Jvm.MethodName)) ∈ lw_tbl := List.mem_of_getElem? (i := 408) rfl
set_option maxRecDepth 100000 in
theorem wd_385 : (Jvm.Cond.privateMethod ({ cls := "ExpenseClubs$Grouping", name := "addGroup", desc := "(LExpenseClubs$Settlement;I)V" } : Jvm.MethodName)) ∈ lw_tbl := List.mem_of_getElem? (i := 409) rfl
set_option maxRecDepth 100000 in
theorem wd_386 : (Jvm.Cond.instanceMethod ({ cls := "ExpenseClubs$Grouping", name := "addGroup", desc := "(LExpenseClubs$Settlement;I)V" } : Jvm.MethodName)) ∈ lw_tbl := List.mem_of_getElem? (i := 410) rfl
set_option maxRecDepth 100000 in
theorem wd_387 : (Jvm.Cond.code ({ cls := "ExpenseClubs$Grouping", name := "addGroup", desc := "(LExpenseClubs$Settlement;I)V" } : Jvm.MethodName) prog_5_method_7_code (7 : Nat) (Option.none : Option Jvm.ClassFile.FieldType)) ∈ lw_tbl := List.mem_of_getElem? (i := 411) rfl
set_option maxRecDepth 100000 in
theorem wd_388 : (Jvm.Cond.methodLink "ExpenseClubs$Grouping" (56 : Nat) ({ cls := "ExpenseClubs$Settlement", name := "addTransfer", desc := "(IIJ)V" } : Jvm.MethodName)) ∈ lw_tbl := List.mem_of_getElem? (i := 412) rfl
set_option maxRecDepth 100000 in
theorem wd_389 : (Jvm.Cond.instanceMethod ({ cls := "ExpenseClubs$Settlement", name := "addTransfer", desc := "(IIJ)V" } : Jvm.MethodName)) ∈ lw_tbl := List.mem_of_getElem? (i := 413) rfl
set_option maxRecDepth 100000 in
theorem wd_390 : (Jvm.Cond.selects "ExpenseClubs$Settlement" ({ cls := "ExpenseClubs$Settlement", name := "addTransfer", desc := "(IIJ)V" } : Jvm.MethodName) ({ cls := "ExpenseClubs$Settlement", name := "addTransfer", desc := "(IIJ)V" } : Jvm.MethodName)) ∈ lw_tbl := List.mem_of_getElem? (i := 414) rfl
set_option maxRecDepth 100000 in
theorem wd_391 : (Jvm.Cond.code ({ cls := "ExpenseClubs$Settlement", name := "addTransfer", desc := "(IIJ)V" } : Jvm.MethodName) prog_6_method_4_code (5 : Nat) (Option.none : Option Jvm.ClassFile.FieldType)) ∈ lw_tbl := List.mem_of_getElem? (i := 415) rfl
set_option maxRecDepth 100000 in
theorem wd_392 : (Jvm.Cond.methodLink "ExpenseClubsLaw" (93 : Nat) ({ cls := "ExpenseClubs", name := "tick", desc := "(II)Z" } : Jvm.MethodName)) ∈ lw_tbl := List.mem_of_getElem? (i := 416) rfl
set_option maxRecDepth 100000 in
theorem wd_393 : (Jvm.Cond.instanceMethod ({ cls := "ExpenseClubs", name := "tick", desc := "(II)Z" } : Jvm.MethodName)) ∈ lw_tbl := List.mem_of_getElem? (i := 417) rfl
set_option maxRecDepth 100000 in
theorem wd_394 : (Jvm.Cond.selects "ExpenseClubs" ({ cls := "ExpenseClubs", name := "tick", desc := "(II)Z" } : Jvm.MethodName) ({ cls := "ExpenseClubs", name := "tick", desc := "(II)Z" } : Jvm.MethodName)) ∈ lw_tbl := List.mem_of_getElem? (i := 418) rfl
set_option maxRecDepth 100000 in
theorem wd_395 : (Jvm.Cond.code ({ cls := "ExpenseClubs", name := "tick", desc := "(II)Z" } : Jvm.MethodName) prog_1_method_17_code (4 : Nat) (Option.some Jvm.ClassFile.FieldType.boolean)) ∈ lw_tbl := List.mem_of_getElem? (i := 419) rfl
set_option maxRecDepth 100000 in
theorem wd_396 : (Jvm.Cond.methodLink "ExpenseClubs" (153 : Nat) ({ cls := "ExpenseClubs$Settlement", name := "hasTransfer", desc := "(I)Z" } : Jvm.MethodName)) ∈ lw_tbl := List.mem_of_getElem? (i := 420) rfl
set_option maxRecDepth 100000 in
theorem wd_397 : (Jvm.Cond.instanceMethod ({ cls := "ExpenseClubs$Settlement", name := "hasTransfer", desc := "(I)Z" } : Jvm.MethodName)) ∈ lw_tbl := List.mem_of_getElem? (i := 421) rfl
set_option maxRecDepth 100000 in
theorem wd_398 : (Jvm.Cond.selects "ExpenseClubs$Settlement" ({ cls := "ExpenseClubs$Settlement", name := "hasTransfer", desc := "(I)Z" } : Jvm.MethodName) ({ cls := "ExpenseClubs$Settlement", name := "hasTransfer", desc := "(I)Z" } : Jvm.MethodName)) ∈ lw_tbl := List.mem_of_getElem? (i := 422) rfl
set_option maxRecDepth 100000 in
theorem wd_399 : (Jvm.Cond.code ({ cls := "ExpenseClubs$Settlement", name := "hasTransfer", desc := "(I)Z" } : Jvm.MethodName) prog_6_method_3_code (2 : Nat) (Option.some Jvm.ClassFile.FieldType.boolean)) ∈ lw_tbl := List.mem_of_getElem? (i := 423) rfl
set_option maxRecDepth 100000 in
theorem wd_400 : (Jvm.Cond.methodLink "ExpenseClubs" (182 : Nat) ({ cls := "ExpenseClubs$Club", name := "makeTransfer", desc := "(I)V" } : Jvm.MethodName)) ∈ lw_tbl := List.mem_of_getElem? (i := 424) rfl
set_option maxRecDepth 100000 in
theorem wd_401 : (Jvm.Cond.instanceMethod ({ cls := "ExpenseClubs$Club", name := "makeTransfer", desc := "(I)V" } : Jvm.MethodName)) ∈ lw_tbl := List.mem_of_getElem? (i := 425) rfl
set_option maxRecDepth 100000 in
theorem wd_402 : (Jvm.Cond.selects "ExpenseClubs$Club" ({ cls := "ExpenseClubs$Club", name := "makeTransfer", desc := "(I)V" } : Jvm.MethodName) ({ cls := "ExpenseClubs$Club", name := "makeTransfer", desc := "(I)V" } : Jvm.MethodName)) ∈ lw_tbl := List.mem_of_getElem? (i := 426) rfl
set_option maxRecDepth 100000 in
theorem wd_403 : (Jvm.Cond.code ({ cls := "ExpenseClubs$Club", name := "makeTransfer", desc := "(I)V" } : Jvm.MethodName) prog_3_method_7_code (2 : Nat) (Option.none : Option Jvm.ClassFile.FieldType)) ∈ lw_tbl := List.mem_of_getElem? (i := 427) rfl
set_option maxRecDepth 100000 in
theorem wd_404 : (Jvm.Cond.methodLink "ExpenseClubsLaw" (97 : Nat) ({ cls := "ExpenseClubs", name := "giveUp", desc := "(I)I" } : Jvm.MethodName)) ∈ lw_tbl := List.mem_of_getElem? (i := 428) rfl
set_option maxRecDepth 100000 in
theorem wd_405 : (Jvm.Cond.instanceMethod ({ cls := "ExpenseClubs", name := "giveUp", desc := "(I)I" } : Jvm.MethodName)) ∈ lw_tbl := List.mem_of_getElem? (i := 429) rfl
set_option maxRecDepth 100000 in
theorem wd_406 : (Jvm.Cond.selects "ExpenseClubs" ({ cls := "ExpenseClubs", name := "giveUp", desc := "(I)I" } : Jvm.MethodName) ({ cls := "ExpenseClubs", name := "giveUp", desc := "(I)I" } : Jvm.MethodName)) ∈ lw_tbl := List.mem_of_getElem? (i := 430) rfl
set_option maxRecDepth 100000 in
theorem wd_407 : (Jvm.Cond.code ({ cls := "ExpenseClubs", name := "giveUp", desc := "(I)I" } : Jvm.MethodName) prog_1_method_18_code (3 : Nat) (Option.some Jvm.ClassFile.FieldType.int)) ∈ lw_tbl := List.mem_of_getElem? (i := 431) rfl
set_option maxRecDepth 100000 in
theorem wd_408 : (Jvm.Cond.methodLink "ExpenseClubsLaw" (101 : Nat) ({ cls := "ExpenseClubs", name := "close", desc := "(I)Z" } : Jvm.MethodName)) ∈ lw_tbl := List.mem_of_getElem? (i := 432) rfl
set_option maxRecDepth 100000 in
theorem wd_409 : (Jvm.Cond.instanceMethod ({ cls := "ExpenseClubs", name := "close", desc := "(I)Z" } : Jvm.MethodName)) ∈ lw_tbl := List.mem_of_getElem? (i := 433) rfl
set_option maxRecDepth 100000 in
theorem wd_410 : (Jvm.Cond.selects "ExpenseClubs" ({ cls := "ExpenseClubs", name := "close", desc := "(I)Z" } : Jvm.MethodName) ({ cls := "ExpenseClubs", name := "close", desc := "(I)Z" } : Jvm.MethodName)) ∈ lw_tbl := List.mem_of_getElem? (i := 434) rfl
set_option maxRecDepth 100000 in
theorem wd_411 : (Jvm.Cond.code ({ cls := "ExpenseClubs", name := "close", desc := "(I)Z" } : Jvm.MethodName) prog_1_method_19_code (3 : Nat) (Option.some Jvm.ClassFile.FieldType.boolean)) ∈ lw_tbl := List.mem_of_getElem? (i := 435) rfl
set_option maxRecDepth 100000 in
theorem wd_412 : (Jvm.Cond.methodLink "ExpenseClubsLaw" (105 : Nat) ({ cls := "ExpenseClubs", name := "count", desc := "(II)I" } : Jvm.MethodName)) ∈ lw_tbl := List.mem_of_getElem? (i := 436) rfl
set_option maxRecDepth 100000 in
theorem wd_413 : (Jvm.Cond.instanceMethod ({ cls := "ExpenseClubs", name := "count", desc := "(II)I" } : Jvm.MethodName)) ∈ lw_tbl := List.mem_of_getElem? (i := 437) rfl
set_option maxRecDepth 100000 in
theorem wd_414 : (Jvm.Cond.selects "ExpenseClubs" ({ cls := "ExpenseClubs", name := "count", desc := "(II)I" } : Jvm.MethodName) ({ cls := "ExpenseClubs", name := "count", desc := "(II)I" } : Jvm.MethodName)) ∈ lw_tbl := List.mem_of_getElem? (i := 438) rfl
set_option maxRecDepth 100000 in
theorem wd_415 : (Jvm.Cond.code ({ cls := "ExpenseClubs", name := "count", desc := "(II)I" } : Jvm.MethodName) prog_1_method_20_code (4 : Nat) (Option.some Jvm.ClassFile.FieldType.int)) ∈ lw_tbl := List.mem_of_getElem? (i := 439) rfl
set_option maxRecDepth 100000 in
theorem wd_416 : (Jvm.Cond.methodLink "ExpenseClubsLaw" (110 : Nat) ({ cls := "ExpenseClubs", name := "groupOf", desc := "(II)I" } : Jvm.MethodName)) ∈ lw_tbl := List.mem_of_getElem? (i := 440) rfl
set_option maxRecDepth 100000 in
theorem wd_417 : (Jvm.Cond.instanceMethod ({ cls := "ExpenseClubs", name := "groupOf", desc := "(II)I" } : Jvm.MethodName)) ∈ lw_tbl := List.mem_of_getElem? (i := 441) rfl
set_option maxRecDepth 100000 in
theorem wd_418 : (Jvm.Cond.selects "ExpenseClubs" ({ cls := "ExpenseClubs", name := "groupOf", desc := "(II)I" } : Jvm.MethodName) ({ cls := "ExpenseClubs", name := "groupOf", desc := "(II)I" } : Jvm.MethodName)) ∈ lw_tbl := List.mem_of_getElem? (i := 442) rfl
set_option maxRecDepth 100000 in
theorem wd_419 : (Jvm.Cond.code ({ cls := "ExpenseClubs", name := "groupOf", desc := "(II)I" } : Jvm.MethodName) prog_1_method_21_code (4 : Nat) (Option.some Jvm.ClassFile.FieldType.int)) ∈ lw_tbl := List.mem_of_getElem? (i := 443) rfl
set_option maxRecDepth 100000 in
theorem wd_420 : (Jvm.Cond.methodLink "ExpenseClubsLaw" (84 : Nat) ({ cls := "ExpenseClubsLaw", name := "transfer", desc := "(LExpenseClubs;III[J)I" } : Jvm.MethodName)) ∈ lw_tbl := List.mem_of_getElem? (i := 444) rfl
set_option maxRecDepth 100000 in
theorem wd_421 : (Jvm.Cond.static ({ cls := "ExpenseClubsLaw", name := "transfer", desc := "(LExpenseClubs;III[J)I" } : Jvm.MethodName)) ∈ lw_tbl := List.mem_of_getElem? (i := 445) rfl
set_option maxRecDepth 100000 in
theorem wd_422 : (Jvm.Cond.codeWith ({ cls := "ExpenseClubsLaw", name := "transfer", desc := "(LExpenseClubs;III[J)I" } : Jvm.MethodName) method_3_code (6 : Nat) (Option.some Jvm.ClassFile.FieldType.int) [((0 : Nat), (11 : Nat), (14 : Nat), (13 : Nat)), ((0 : Nat), (11 : Nat), (18 : Nat), (15 : Nat))]) ∈ lw_tbl := List.mem_of_getElem? (i := 446) rfl
set_option maxRecDepth 100000 in
theorem wd_423 : (Jvm.Cond.classLink "ExpenseClubsLaw" (13 : Nat) "java/lang/IndexOutOfBoundsException") ∈ lw_tbl := List.mem_of_getElem? (i := 447) rfl
set_option maxRecDepth 100000 in
theorem wd_424 : (Jvm.Cond.classLink "ExpenseClubsLaw" (15 : Nat) "java/lang/IllegalArgumentException") ∈ lw_tbl := List.mem_of_getElem? (i := 448) rfl
set_option maxRecDepth 100000 in
theorem wd_425 : (Jvm.Cond.methodLink "ExpenseClubsLaw" (7 : Nat) ({ cls := "ExpenseClubs", name := "transfer", desc := "(III)J" } : Jvm.MethodName)) ∈ lw_tbl := List.mem_of_getElem? (i := 449) rfl
set_option maxRecDepth 100000 in
theorem wd_426 : (Jvm.Cond.instanceMethod ({ cls := "ExpenseClubs", name := "transfer", desc := "(III)J" } : Jvm.MethodName)) ∈ lw_tbl := List.mem_of_getElem? (i := 450) rfl
set_option maxRecDepth 100000 in
theorem wd_427 : (Jvm.Cond.selects "ExpenseClubs" ({ cls := "ExpenseClubs", name := "transfer", desc := "(III)J" } : Jvm.MethodName) ({ cls := "ExpenseClubs", name := "transfer", desc := "(III)J" } : Jvm.MethodName)) ∈ lw_tbl := List.mem_of_getElem? (i := 451) rfl
set_option maxRecDepth 100000 in
theorem wd_428 : (Jvm.Cond.code ({ cls := "ExpenseClubs", name := "transfer", desc := "(III)J" } : Jvm.MethodName) prog_1_method_16_code (5 : Nat) (Option.some Jvm.ClassFile.FieldType.long)) ∈ lw_tbl := List.mem_of_getElem? (i := 452) rfl
set_option maxRecDepth 100000 in
theorem wd_429 : (Jvm.Cond.classLink "ExpenseClubs" (156 : Nat) "java/lang/IndexOutOfBoundsException") ∈ lw_tbl := List.mem_of_getElem? (i := 453) rfl
set_option maxRecDepth 100000 in
theorem wd_430 : (Jvm.Cond.instantiable "java/lang/IndexOutOfBoundsException" (6 : Nat)) ∈ lw_tbl := List.mem_of_getElem? (i := 454) rfl
set_option maxRecDepth 100000 in
theorem wd_431 : (Jvm.Cond.castable "java/lang/IndexOutOfBoundsException" "java/lang/IndexOutOfBoundsException") ∈ lw_tbl := List.mem_of_getElem? (i := 455) rfl
set_option maxRecDepth 100000 in
theorem wd_432 : (Jvm.Cond.declares ({ cls := "java/lang/RuntimeException", name := "<init>", desc := "()V" } : Jvm.MethodName)) ∈ lw_tbl := List.mem_of_getElem? (i := 456) rfl
set_option maxRecDepth 100000 in
theorem wd_433 : (Jvm.Cond.declares ({ cls := "java/lang/RuntimeException", name := "<init>", desc := "(Ljava/lang/String;)V" } : Jvm.MethodName)) ∈ lw_tbl := List.mem_of_getElem? (i := 457) rfl
set_option maxRecDepth 100000 in
theorem wd_434 : (Jvm.Cond.declares ({ cls := "java/lang/Exception", name := "<init>", desc := "()V" } : Jvm.MethodName)) ∈ lw_tbl := List.mem_of_getElem? (i := 458) rfl
set_option maxRecDepth 100000 in
theorem wd_435 : (Jvm.Cond.declares ({ cls := "java/lang/Exception", name := "<init>", desc := "(Ljava/lang/String;)V" } : Jvm.MethodName)) ∈ lw_tbl := List.mem_of_getElem? (i := 459) rfl
set_option maxRecDepth 100000 in
theorem wd_436 : (Jvm.Cond.declares ({ cls := "java/lang/Throwable", name := "<init>", desc := "()V" } : Jvm.MethodName)) ∈ lw_tbl := List.mem_of_getElem? (i := 460) rfl
set_option maxRecDepth 100000 in
theorem wd_437 : (Jvm.Cond.declares ({ cls := "java/lang/Throwable", name := "<init>", desc := "(Ljava/lang/String;)V" } : Jvm.MethodName)) ∈ lw_tbl := List.mem_of_getElem? (i := 461) rfl
set_option maxRecDepth 100000 in
theorem wd_438 : (Jvm.Cond.selects "java/lang/IndexOutOfBoundsException" ({ cls := "java/lang/Throwable", name := "fillInStackTrace", desc := "(I)Ljava/lang/Throwable;" } : Jvm.MethodName) ({ cls := "java/lang/Throwable", name := "fillInStackTrace", desc := "(I)Ljava/lang/Throwable;" } : Jvm.MethodName)) ∈ lw_tbl := List.mem_of_getElem? (i := 462) rfl
set_option maxRecDepth 100000 in
theorem wd_439 : (Jvm.Cond.selects "java/lang/IndexOutOfBoundsException" ({ cls := "java/lang/Throwable", name := "fillInStackTrace", desc := "()Ljava/lang/Throwable;" } : Jvm.MethodName) ({ cls := "java/lang/Throwable", name := "fillInStackTrace", desc := "()Ljava/lang/Throwable;" } : Jvm.MethodName)) ∈ lw_tbl := List.mem_of_getElem? (i := 463) rfl
set_option maxRecDepth 100000 in
theorem wd_440 : (Jvm.Cond.lays "java/lang/IndexOutOfBoundsException" "java/lang/Throwable" "cause" "Ljava/lang/Throwable;") ∈ lw_tbl := List.mem_of_getElem? (i := 464) rfl
set_option maxRecDepth 100000 in
theorem wd_441 : (Jvm.Cond.lays "java/lang/Throwable" "java/lang/Throwable" "cause" "Ljava/lang/Throwable;") ∈ lw_tbl := List.mem_of_getElem? (i := 465) rfl
set_option maxRecDepth 100000 in
theorem wd_442 : (Jvm.Cond.lays "java/lang/IndexOutOfBoundsException" "java/lang/Throwable" "stackTrace" "[Ljava/lang/StackTraceElement;") ∈ lw_tbl := List.mem_of_getElem? (i := 466) rfl
set_option maxRecDepth 100000 in
theorem wd_443 : (Jvm.Cond.lays "java/lang/Throwable" "java/lang/Throwable" "stackTrace" "[Ljava/lang/StackTraceElement;") ∈ lw_tbl := List.mem_of_getElem? (i := 467) rfl
set_option maxRecDepth 100000 in
theorem wd_444 : (Jvm.Cond.lays "java/lang/IndexOutOfBoundsException" "java/lang/Throwable" "suppressedExceptions" "Ljava/util/List;") ∈ lw_tbl := List.mem_of_getElem? (i := 468) rfl
set_option maxRecDepth 100000 in
theorem wd_445 : (Jvm.Cond.lays "java/lang/Throwable" "java/lang/Throwable" "suppressedExceptions" "Ljava/util/List;") ∈ lw_tbl := List.mem_of_getElem? (i := 469) rfl
set_option maxRecDepth 100000 in
theorem wd_446 : (Jvm.Cond.lays "java/lang/IndexOutOfBoundsException" "java/lang/Throwable" "detailMessage" "Ljava/lang/String;") ∈ lw_tbl := List.mem_of_getElem? (i := 470) rfl
set_option maxRecDepth 100000 in
theorem wd_447 : (Jvm.Cond.lays "java/lang/Throwable" "java/lang/Throwable" "detailMessage" "Ljava/lang/String;") ∈ lw_tbl := List.mem_of_getElem? (i := 471) rfl
set_option maxRecDepth 100000 in
theorem wd_448 : (Jvm.Cond.lays "java/lang/IndexOutOfBoundsException" "java/lang/Throwable" "backtrace" "Ljava/lang/Object;") ∈ lw_tbl := List.mem_of_getElem? (i := 472) rfl
set_option maxRecDepth 100000 in
theorem wd_449 : (Jvm.Cond.lays "java/lang/Throwable" "java/lang/Throwable" "backtrace" "Ljava/lang/Object;") ∈ lw_tbl := List.mem_of_getElem? (i := 473) rfl
set_option maxRecDepth 100000 in
theorem wd_450 : (Jvm.Cond.fieldLink "java/lang/Throwable" (198 : Nat) "java/lang/Throwable" "backtrace" "Ljava/lang/Object;") ∈ lw_tbl := List.mem_of_getElem? (i := 474) rfl
set_option maxRecDepth 100000 in
theorem wd_451 : (Jvm.Cond.superclass "java/lang/Throwable" "java/lang/Object") ∈ lw_tbl := List.mem_of_getElem? (i := 475) rfl
set_option maxRecDepth 100000 in
theorem wd_452 : (Jvm.Cond.instanceMethod ({ cls := "java/lang/Throwable", name := "<init>", desc := "()V" } : Jvm.MethodName)) ∈ lw_tbl := List.mem_of_getElem? (i := 476) rfl
set_option maxRecDepth 100000 in
theorem wd_453 : (Jvm.Cond.code ({ cls := "java/lang/Throwable", name := "<init>", desc := "()V" } : Jvm.MethodName) prog_16_method_1_code (1 : Nat) (Option.none : Option Jvm.ClassFile.FieldType)) ∈ lw_tbl := List.mem_of_getElem? (i := 477) rfl
set_option maxRecDepth 100000 in
theorem wd_454 : (Jvm.Cond.methodLink "java/lang/Throwable" (1 : Nat) ({ cls := "java/lang/Object", name := "<init>", desc := "()V" } : Jvm.MethodName)) ∈ lw_tbl := List.mem_of_getElem? (i := 478) rfl
set_option maxRecDepth 100000 in
theorem wd_455 : (Jvm.Cond.fieldLink "java/lang/Throwable" (13 : Nat) "java/lang/Throwable" "UNASSIGNED_STACK" "[Ljava/lang/StackTraceElement;") ∈ lw_tbl := List.mem_of_getElem? (i := 479) rfl
set_option maxRecDepth 100000 in
theorem wd_456 : (Jvm.Cond.laysStatic "java/lang/Throwable" "UNASSIGNED_STACK" "[Ljava/lang/StackTraceElement;") ∈ lw_tbl := List.mem_of_getElem? (i := 480) rfl
set_option maxRecDepth 100000 in
theorem wd_457 : (Jvm.Cond.fieldLink "java/lang/Throwable" (20 : Nat) "java/lang/Throwable" "SUPPRESSED_SENTINEL" "Ljava/util/List;") ∈ lw_tbl := List.mem_of_getElem? (i := 481) rfl
set_option maxRecDepth 100000 in
theorem wd_458 : (Jvm.Cond.laysStatic "java/lang/Throwable" "SUPPRESSED_SENTINEL" "Ljava/util/List;") ∈ lw_tbl := List.mem_of_getElem? (i := 482) rfl
set_option maxRecDepth 100000 in
theorem wd_459 : (Jvm.Cond.methodLink "java/lang/Throwable" (27 : Nat) ({ cls := "java/lang/Throwable", name := "fillInStackTrace", desc := "()Ljava/lang/Throwable;" } : Jvm.MethodName)) ∈ lw_tbl := List.mem_of_getElem? (i := 483) rfl
set_option maxRecDepth 100000 in
theorem wd_460 : (Jvm.Cond.instanceMethod ({ cls := "java/lang/Throwable", name := "fillInStackTrace", desc := "()Ljava/lang/Throwable;" } : Jvm.MethodName)) ∈ lw_tbl := List.mem_of_getElem? (i := 484) rfl
set_option maxRecDepth 100000 in
theorem wd_461 : (Jvm.Cond.sameMethod "java/lang/Throwable" "java/lang/Throwable" "fillInStackTrace" "()Ljava/lang/Throwable;") ∈ lw_tbl := List.mem_of_getElem? (i := 485) rfl
set_option maxRecDepth 100000 in
theorem wd_462 : (Jvm.Cond.selects "java/lang/IllegalArgumentException" ({ cls := "java/lang/Throwable", name := "fillInStackTrace", desc := "()Ljava/lang/Throwable;" } : Jvm.MethodName) ({ cls := "java/lang/Throwable", name := "fillInStackTrace", desc := "()Ljava/lang/Throwable;" } : Jvm.MethodName)) ∈ lw_tbl := List.mem_of_getElem? (i := 486) rfl
set_option maxRecDepth 100000 in
theorem wd_463 : (Jvm.Cond.codeSync ({ cls := "java/lang/Throwable", name := "fillInStackTrace", desc := "()Ljava/lang/Throwable;" } : Jvm.MethodName) prog_16_method_18_code (1 : Nat) (Option.some (Jvm.ClassFile.FieldType.object "java/lang/Throwable"))) ∈ lw_tbl := List.mem_of_getElem? (i := 487) rfl
set_option maxRecDepth 100000 in
theorem wd_464 : (Jvm.Cond.methodLink "java/lang/Throwable" (202 : Nat) ({ cls := "java/lang/Throwable", name := "fillInStackTrace", desc := "(I)Ljava/lang/Throwable;" } : Jvm.MethodName)) ∈ lw_tbl := List.mem_of_getElem? (i := 488) rfl
set_option maxRecDepth 100000 in
theorem wd_465 : (Jvm.Cond.privateMethod ({ cls := "java/lang/Throwable", name := "fillInStackTrace", desc := "(I)Ljava/lang/Throwable;" } : Jvm.MethodName)) ∈ lw_tbl := List.mem_of_getElem? (i := 489) rfl
set_option maxRecDepth 100000 in
theorem wd_466 : (Jvm.Cond.instanceMethod ({ cls := "java/lang/Throwable", name := "fillInStackTrace", desc := "(I)Ljava/lang/Throwable;" } : Jvm.MethodName)) ∈ lw_tbl := List.mem_of_getElem? (i := 490) rfl
set_option maxRecDepth 100000 in
theorem wd_467 : (Jvm.Cond.instantiable "java/lang/Throwable" (6 : Nat)) ∈ lw_tbl := List.mem_of_getElem? (i := 491) rfl
set_option maxRecDepth 100000 in
theorem wd_468 : (Jvm.Cond.native ({ cls := "java/lang/Throwable", name := "fillInStackTrace", desc := "(I)Ljava/lang/Throwable;" } : Jvm.MethodName)) ∈ lw_tbl := List.mem_of_getElem? (i := 492) rfl
set_option maxRecDepth 100000 in
theorem wd_469 : (Jvm.Cond.stringRef "ExpenseClubs" (158 : Nat) "no such club, settlement or transfer") ∈ lw_tbl := List.mem_of_getElem? (i := 493) rfl
set_option maxRecDepth 100000 in
theorem wd_470 : (Jvm.Cond.methodLink "ExpenseClubs" (160 : Nat) ({ cls := "java/lang/IndexOutOfBoundsException", name := "<init>", desc := "(Ljava/lang/String;)V" } : Jvm.MethodName)) ∈ lw_tbl := List.mem_of_getElem? (i := 494) rfl
set_option maxRecDepth 100000 in
theorem wd_471 : (Jvm.Cond.instanceMethod ({ cls := "java/lang/IndexOutOfBoundsException", name := "<init>", desc := "(Ljava/lang/String;)V" } : Jvm.MethodName)) ∈ lw_tbl := List.mem_of_getElem? (i := 495) rfl
set_option maxRecDepth 100000 in
theorem wd_472 : (Jvm.Cond.code ({ cls := "java/lang/IndexOutOfBoundsException", name := "<init>", desc := "(Ljava/lang/String;)V" } : Jvm.MethodName) prog_11_method_2_code (2 : Nat) (Option.none : Option Jvm.ClassFile.FieldType)) ∈ lw_tbl := List.mem_of_getElem? (i := 496) rfl
set_option maxRecDepth 100000 in
theorem wd_473 : (Jvm.Cond.methodLink "java/lang/IndexOutOfBoundsException" (7 : Nat) ({ cls := "java/lang/RuntimeException", name := "<init>", desc := "(Ljava/lang/String;)V" } : Jvm.MethodName)) ∈ lw_tbl := List.mem_of_getElem? (i := 497) rfl
set_option maxRecDepth 100000 in
theorem wd_474 : (Jvm.Cond.instanceMethod ({ cls := "java/lang/RuntimeException", name := "<init>", desc := "(Ljava/lang/String;)V" } : Jvm.MethodName)) ∈ lw_tbl := List.mem_of_getElem? (i := 498) rfl
set_option maxRecDepth 100000 in
theorem wd_475 : (Jvm.Cond.code ({ cls := "java/lang/RuntimeException", name := "<init>", desc := "(Ljava/lang/String;)V" } : Jvm.MethodName) prog_14_method_2_code (2 : Nat) (Option.none : Option Jvm.ClassFile.FieldType)) ∈ lw_tbl := List.mem_of_getElem? (i := 499) rfl
set_option maxRecDepth 100000 in
theorem wd_476 : (Jvm.Cond.methodLink "java/lang/RuntimeException" (7 : Nat) ({ cls := "java/lang/Exception", name := "<init>", desc := "(Ljava/lang/String;)V" } : Jvm.MethodName)) ∈ lw_tbl := List.mem_of_getElem? (i := 500) rfl
set_option maxRecDepth 100000 in
theorem wd_477 : (Jvm.Cond.instanceMethod ({ cls := "java/lang/Exception", name := "<init>", desc := "(Ljava/lang/String;)V" } : Jvm.MethodName)) ∈ lw_tbl := List.mem_of_getElem? (i := 501) rfl
set_option maxRecDepth 100000 in
theorem wd_478 : (Jvm.Cond.code ({ cls := "java/lang/Exception", name := "<init>", desc := "(Ljava/lang/String;)V" } : Jvm.MethodName) prog_9_method_2_code (2 : Nat) (Option.none : Option Jvm.ClassFile.FieldType)) ∈ lw_tbl := List.mem_of_getElem? (i := 502) rfl
set_option maxRecDepth 100000 in
theorem wd_479 : (Jvm.Cond.methodLink "java/lang/Exception" (7 : Nat) ({ cls := "java/lang/Throwable", name := "<init>", desc := "(Ljava/lang/String;)V" } : Jvm.MethodName)) ∈ lw_tbl := List.mem_of_getElem? (i := 503) rfl
set_option maxRecDepth 100000 in
theorem wd_480 : (Jvm.Cond.instanceMethod ({ cls := "java/lang/Throwable", name := "<init>", desc := "(Ljava/lang/String;)V" } : Jvm.MethodName)) ∈ lw_tbl := List.mem_of_getElem? (i := 504) rfl
set_option maxRecDepth 100000 in
theorem wd_481 : (Jvm.Cond.code ({ cls := "java/lang/Throwable", name := "<init>", desc := "(Ljava/lang/String;)V" } : Jvm.MethodName) prog_16_method_2_code (2 : Nat) (Option.none : Option Jvm.ClassFile.FieldType)) ∈ lw_tbl := List.mem_of_getElem? (i := 505) rfl
set_option maxRecDepth 100000 in
theorem wd_482 : (Jvm.Cond.fieldLink "java/lang/Throwable" (198 : Nat) "java/lang/Throwable" "backtrace" "Ljava/lang/Object;") ∈ lw_tbl := List.mem_of_getElem? (i := 506) rfl
set_option maxRecDepth 100000 in
theorem wd_483 : (Jvm.Cond.fieldLink "java/lang/Throwable" (31 : Nat) "java/lang/Throwable" "detailMessage" "Ljava/lang/String;") ∈ lw_tbl := List.mem_of_getElem? (i := 507) rfl
set_option maxRecDepth 100000 in
theorem wd_484 : (Jvm.Cond.fieldLink "java/lang/Throwable" (7 : Nat) "java/lang/Throwable" "cause" "Ljava/lang/Throwable;") ∈ lw_tbl := List.mem_of_getElem? (i := 508) rfl
set_option maxRecDepth 100000 in
theorem wd_485 : (Jvm.Cond.fieldLink "java/lang/Throwable" (17 : Nat) "java/lang/Throwable" "stackTrace" "[Ljava/lang/StackTraceElement;") ∈ lw_tbl := List.mem_of_getElem? (i := 509) rfl
set_option maxRecDepth 100000 in
theorem wd_486 : (Jvm.Cond.fieldLink "java/lang/Throwable" (24 : Nat) "java/lang/Throwable" "suppressedExceptions" "Ljava/util/List;") ∈ lw_tbl := List.mem_of_getElem? (i := 510) rfl
set_option maxRecDepth 100000 in
theorem wd_487 : (Jvm.Cond.soleField "java/lang/Throwable" "backtrace") ∈ lw_tbl := List.mem_of_getElem? (i := 511) rfl
set_option maxRecDepth 100000 in
theorem wd_488 : (Jvm.Cond.soleField "java/lang/Throwable" "detailMessage") ∈ lw_tbl := List.mem_of_getElem? (i := 512) rfl
set_option maxRecDepth 100000 in
theorem wd_489 : (Jvm.Cond.soleField "java/lang/Throwable" "cause") ∈ lw_tbl := List.mem_of_getElem? (i := 513) rfl
set_option maxRecDepth 100000 in
theorem wd_490 : (Jvm.Cond.soleField "java/lang/Throwable" "stackTrace") ∈ lw_tbl := List.mem_of_getElem? (i := 514) rfl
set_option maxRecDepth 100000 in
theorem wd_491 : (Jvm.Cond.lays "java/lang/IndexOutOfBoundsException" "java/lang/Throwable" "depth" "I") ∈ lw_tbl := List.mem_of_getElem? (i := 515) rfl
set_option maxRecDepth 100000 in
theorem wd_492 : (Jvm.Cond.soleField "java/lang/Throwable" "depth") ∈ lw_tbl := List.mem_of_getElem? (i := 516) rfl
set_option maxRecDepth 100000 in
theorem wd_493 : (Jvm.Cond.soleField "java/lang/Throwable" "suppressedExceptions") ∈ lw_tbl := List.mem_of_getElem? (i := 517) rfl
set_option maxRecDepth 100000 in
theorem wd_494 : (Jvm.Cond.superclass "java/lang/IndexOutOfBoundsException" "java/lang/RuntimeException") ∈ lw_tbl := List.mem_of_getElem? (i := 518) rfl
set_option maxRecDepth 100000 in
theorem wd_495 : (Jvm.Cond.arrayClass Jvm.ClassFile.FieldType.byte) ∈ lw_tbl := List.mem_of_getElem? (i := 519) rfl
set_option maxRecDepth 100000 in
theorem wd_496 : (Jvm.Cond.classLink "ExpenseClubs" (177 : Nat) "java/lang/IllegalArgumentException") ∈ lw_tbl := List.mem_of_getElem? (i := 520) rfl
set_option maxRecDepth 100000 in
theorem wd_497 : (Jvm.Cond.instantiable "java/lang/IllegalArgumentException" (6 : Nat)) ∈ lw_tbl := List.mem_of_getElem? (i := 521) rfl
set_option maxRecDepth 100000 in
theorem wd_498 : (Jvm.Cond.castable "java/lang/IllegalArgumentException" "java/lang/IllegalArgumentException") ∈ lw_tbl := List.mem_of_getElem? (i := 522) rfl
set_option maxRecDepth 100000 in
theorem wd_499 : (Jvm.Cond.selects "java/lang/IllegalArgumentException" ({ cls := "java/lang/Throwable", name := "fillInStackTrace", desc := "(I)Ljava/lang/Throwable;" } : Jvm.MethodName) ({ cls := "java/lang/Throwable", name := "fillInStackTrace", desc := "(I)Ljava/lang/Throwable;" } : Jvm.MethodName)) ∈ lw_tbl := List.mem_of_getElem? (i := 523) rfl
set_option maxRecDepth 100000 in
theorem wd_500 : (Jvm.Cond.lays "java/lang/IllegalArgumentException" "java/lang/Throwable" "cause" "Ljava/lang/Throwable;") ∈ lw_tbl := List.mem_of_getElem? (i := 524) rfl
set_option maxRecDepth 100000 in
theorem wd_501 : (Jvm.Cond.lays "java/lang/IllegalArgumentException" "java/lang/Throwable" "stackTrace" "[Ljava/lang/StackTraceElement;") ∈ lw_tbl := List.mem_of_getElem? (i := 525) rfl
set_option maxRecDepth 100000 in
theorem wd_502 : (Jvm.Cond.lays "java/lang/IllegalArgumentException" "java/lang/Throwable" "suppressedExceptions" "Ljava/util/List;") ∈ lw_tbl := List.mem_of_getElem? (i := 526) rfl
set_option maxRecDepth 100000 in
theorem wd_503 : (Jvm.Cond.lays "java/lang/IllegalArgumentException" "java/lang/Throwable" "detailMessage" "Ljava/lang/String;") ∈ lw_tbl := List.mem_of_getElem? (i := 527) rfl
set_option maxRecDepth 100000 in
theorem wd_504 : (Jvm.Cond.lays "java/lang/IllegalArgumentException" "java/lang/Throwable" "backtrace" "Ljava/lang/Object;") ∈ lw_tbl := List.mem_of_getElem? (i := 528) rfl
set_option maxRecDepth 100000 in
theorem wd_505 : (Jvm.Cond.stringRef "ExpenseClubs" (179 : Nat) "what is not 0 .. 3") ∈ lw_tbl := List.mem_of_getElem? (i := 529) rfl
set_option maxRecDepth 100000 in
theorem wd_506 : (Jvm.Cond.methodLink "ExpenseClubs" (181 : Nat) ({ cls := "java/lang/IllegalArgumentException", name := "<init>", desc := "(Ljava/lang/String;)V" } : Jvm.MethodName)) ∈ lw_tbl := List.mem_of_getElem? (i := 530) rfl
set_option maxRecDepth 100000 in
theorem wd_507 : (Jvm.Cond.instanceMethod ({ cls := "java/lang/IllegalArgumentException", name := "<init>", desc := "(Ljava/lang/String;)V" } : Jvm.MethodName)) ∈ lw_tbl := List.mem_of_getElem? (i := 531) rfl
set_option maxRecDepth 100000 in
theorem wd_508 : (Jvm.Cond.code ({ cls := "java/lang/IllegalArgumentException", name := "<init>", desc := "(Ljava/lang/String;)V" } : Jvm.MethodName) prog_10_method_2_code (2 : Nat) (Option.none : Option Jvm.ClassFile.FieldType)) ∈ lw_tbl := List.mem_of_getElem? (i := 532) rfl
set_option maxRecDepth 100000 in
theorem wd_509 : (Jvm.Cond.methodLink "java/lang/IllegalArgumentException" (7 : Nat) ({ cls := "java/lang/RuntimeException", name := "<init>", desc := "(Ljava/lang/String;)V" } : Jvm.MethodName)) ∈ lw_tbl := List.mem_of_getElem? (i := 533) rfl
set_option maxRecDepth 100000 in
theorem wd_510 : (Jvm.Cond.lays "java/lang/IllegalArgumentException" "java/lang/Throwable" "depth" "I") ∈ lw_tbl := List.mem_of_getElem? (i := 534) rfl
set_option maxRecDepth 100000 in
theorem wd_511 : (Jvm.Cond.superclass "java/lang/IllegalArgumentException" "java/lang/RuntimeException") ∈ lw_tbl := List.mem_of_getElem? (i := 535) rfl
set_option maxRecDepth 100000 in
theorem wd_512 : (Jvm.Cond.classLink "ExpenseClubsLaw" (18 : Nat) "ExpenseClubsModel") ∈ lw_tbl := List.mem_of_getElem? (i := 536) rfl
set_option maxRecDepth 100000 in
theorem wd_513 : (Jvm.Cond.instantiable "ExpenseClubsModel" (33 : Nat)) ∈ lw_tbl := List.mem_of_getElem? (i := 537) rfl
set_option maxRecDepth 100000 in
theorem wd_514 : (Jvm.Cond.methodLink "ExpenseClubsLaw" (20 : Nat) ({ cls := "ExpenseClubsModel", name := "<init>", desc := "()V" } : Jvm.MethodName)) ∈ lw_tbl := List.mem_of_getElem? (i := 538) rfl
set_option maxRecDepth 100000 in
theorem wd_515 : (Jvm.Cond.instanceMethod ({ cls := "ExpenseClubsModel", name := "<init>", desc := "()V" } : Jvm.MethodName)) ∈ lw_tbl := List.mem_of_getElem? (i := 539) rfl
set_option maxRecDepth 100000 in
theorem wd_516 : (Jvm.Cond.code ({ cls := "ExpenseClubsModel", name := "<init>", desc := "()V" } : Jvm.MethodName) prog_8_method_1_code (1 : Nat) (Option.none : Option Jvm.ClassFile.FieldType)) ∈ lw_tbl := List.mem_of_getElem? (i := 540) rfl
set_option maxRecDepth 100000 in
theorem wd_517 : (Jvm.Cond.methodLink "ExpenseClubsModel" (1 : Nat) ({ cls := "java/lang/Object", name := "<init>", desc := "()V" } : Jvm.MethodName)) ∈ lw_tbl := List.mem_of_getElem? (i := 541) rfl
set_option maxRecDepth 100000 in
theorem wd_518 : (Jvm.Cond.fieldLink "ExpenseClubsModel" (91 : Nat) "ExpenseClubsModel" "thrown" "I") ∈ lw_tbl := List.mem_of_getElem? (i := 542) rfl
set_option maxRecDepth 100000 in
theorem wd_519 : (Jvm.Cond.fieldLink "ExpenseClubsModel" (94 : Nat) "ExpenseClubsModel" "clubs" "I") ∈ lw_tbl := List.mem_of_getElem? (i := 543) rfl
set_option maxRecDepth 100000 in
theorem wd_520 : (Jvm.Cond.fieldLink "ExpenseClubsModel" (7 : Nat) "ExpenseClubsModel" "members" "[I") ∈ lw_tbl := List.mem_of_getElem? (i := 544) rfl
set_option maxRecDepth 100000 in
theorem wd_521 : (Jvm.Cond.fieldLink "ExpenseClubsModel" (13 : Nat) "ExpenseClubsModel" "marks" "[I") ∈ lw_tbl := List.mem_of_getElem? (i := 545) rfl
set_option maxRecDepth 100000 in
theorem wd_522 : (Jvm.Cond.fieldLink "ExpenseClubsModel" (16 : Nat) "ExpenseClubsModel" "left" "[Z") ∈ lw_tbl := List.mem_of_getElem? (i := 546) rfl
set_option maxRecDepth 100000 in
theorem wd_523 : (Jvm.Cond.fieldLink "ExpenseClubsModel" (20 : Nat) "ExpenseClubsModel" "draft" "I") ∈ lw_tbl := List.mem_of_getElem? (i := 547) rfl
set_option maxRecDepth 100000 in
theorem wd_524 : (Jvm.Cond.fieldLink "ExpenseClubsModel" (117 : Nat) "ExpenseClubsModel" "way" "I") ∈ lw_tbl := List.mem_of_getElem? (i := 548) rfl
set_option maxRecDepth 100000 in
theorem wd_525 : (Jvm.Cond.fieldLink "ExpenseClubsModel" (120 : Nat) "ExpenseClubsModel" "cents" "I") ∈ lw_tbl := List.mem_of_getElem? (i := 549) rfl
set_option maxRecDepth 100000 in
theorem wd_526 : (Jvm.Cond.fieldLink "ExpenseClubsModel" (123 : Nat) "ExpenseClubsModel" "rate" "I") ∈ lw_tbl := List.mem_of_getElem? (i := 550) rfl
set_option maxRecDepth 100000 in
theorem wd_527 : (Jvm.Cond.fieldLink "ExpenseClubsModel" (24 : Nat) "ExpenseClubsModel" "pays" "[I") ∈ lw_tbl := List.mem_of_getElem? (i := 551) rfl
set_option maxRecDepth 100000 in
theorem wd_528 : (Jvm.Cond.fieldLink "ExpenseClubsModel" (27 : Nat) "ExpenseClubsModel" "weights" "[I") ∈ lw_tbl := List.mem_of_getElem? (i := 552) rfl
set_option maxRecDepth 100000 in
theorem wd_529 : (Jvm.Cond.fieldLink "ExpenseClubsModel" (126 : Nat) "ExpenseClubsModel" "lines" "I") ∈ lw_tbl := List.mem_of_getElem? (i := 553) rfl
set_option maxRecDepth 100000 in
theorem wd_530 : (Jvm.Cond.fieldLink "ExpenseClubsModel" (30 : Nat) "ExpenseClubsModel" "lineCents" "[I") ∈ lw_tbl := List.mem_of_getElem? (i := 554) rfl
set_option maxRecDepth 100000 in
theorem wd_531 : (Jvm.Cond.fieldLink "ExpenseClubsModel" (33 : Nat) "ExpenseClubsModel" "lineSets" "[I") ∈ lw_tbl := List.mem_of_getElem? (i := 555) rfl
set_option maxRecDepth 100000 in
theorem wd_532 : (Jvm.Cond.fieldLink "ExpenseClubsModel" (36 : Nat) "ExpenseClubsModel" "heavy" "[J") ∈ lw_tbl := List.mem_of_getElem? (i := 556) rfl
set_option maxRecDepth 100000 in
theorem wd_533 : (Jvm.Cond.fieldLink "ExpenseClubsModel" (138 : Nat) "ExpenseClubsModel" "bills" "I") ∈ lw_tbl := List.mem_of_getElem? (i := 557) rfl
set_option maxRecDepth 100000 in
theorem wd_534 : (Jvm.Cond.fieldLink "ExpenseClubsModel" (40 : Nat) "ExpenseClubsModel" "clubOf" "[I") ∈ lw_tbl := List.mem_of_getElem? (i := 558) rfl
set_option maxRecDepth 100000 in
theorem wd_535 : (Jvm.Cond.fieldLink "ExpenseClubsModel" (43 : Nat) "ExpenseClubsModel" "totals" "[J") ∈ lw_tbl := List.mem_of_getElem? (i := 559) rfl
set_option maxRecDepth 100000 in
theorem wd_536 : (Jvm.Cond.fieldLink "ExpenseClubsModel" (46 : Nat) "ExpenseClubsModel" "struck" "[Z") ∈ lw_tbl := List.mem_of_getElem? (i := 560) rfl
set_option maxRecDepth 100000 in
theorem wd_537 : (Jvm.Cond.fieldLink "ExpenseClubsModel" (49 : Nat) "ExpenseClubsModel" "shares" "[J") ∈ lw_tbl := List.mem_of_getElem? (i := 561) rfl
set_option maxRecDepth 100000 in
theorem wd_538 : (Jvm.Cond.fieldLink "ExpenseClubsModel" (52 : Nat) "ExpenseClubsModel" "paid" "[J") ∈ lw_tbl := List.mem_of_getElem? (i := 562) rfl
set_option maxRecDepth 100000 in
theorem wd_539 : (Jvm.Cond.fieldLink "ExpenseClubsModel" (55 : Nat) "ExpenseClubsModel" "drifts" "[J") ∈ lw_tbl := List.mem_of_getElem? (i := 563) rfl
set_option maxRecDepth 100000 in
theorem wd_540 : (Jvm.Cond.fieldLink "ExpenseClubsModel" (58 : Nat) "ExpenseClubsModel" "sent" "[J") ∈ lw_tbl := List.mem_of_getElem? (i := 564) rfl
set_option maxRecDepth 100000 in
theorem wd_541 : (Jvm.Cond.fieldLink "ExpenseClubsModel" (61 : Nat) "ExpenseClubsModel" "open" "[Z") ∈ lw_tbl := List.mem_of_getElem? (i := 565) rfl
set_option maxRecDepth 100000 in
theorem wd_542 : (Jvm.Cond.fieldLink "ExpenseClubsModel" (64 : Nat) "ExpenseClubsModel" "groups" "[I") ∈ lw_tbl := List.mem_of_getElem? (i := 566) rfl
set_option maxRecDepth 100000 in
theorem wd_543 : (Jvm.Cond.fieldLink "ExpenseClubsModel" (67 : Nat) "ExpenseClubsModel" "group" "[I") ∈ lw_tbl := List.mem_of_getElem? (i := 567) rfl
set_option maxRecDepth 100000 in
theorem wd_544 : (Jvm.Cond.fieldLink "ExpenseClubsModel" (70 : Nat) "ExpenseClubsModel" "many" "[I") ∈ lw_tbl := List.mem_of_getElem? (i := 568) rfl
set_option maxRecDepth 100000 in
theorem wd_545 : (Jvm.Cond.fieldLink "ExpenseClubsModel" (73 : Nat) "ExpenseClubsModel" "sends" "[I") ∈ lw_tbl := List.mem_of_getElem? (i := 569) rfl
set_option maxRecDepth 100000 in
theorem wd_546 : (Jvm.Cond.fieldLink "ExpenseClubsModel" (76 : Nat) "ExpenseClubsModel" "gets" "[I") ∈ lw_tbl := List.mem_of_getElem? (i := 570) rfl
set_option maxRecDepth 100000 in
theorem wd_547 : (Jvm.Cond.fieldLink "ExpenseClubsModel" (79 : Nat) "ExpenseClubsModel" "sums" "[J") ∈ lw_tbl := List.mem_of_getElem? (i := 571) rfl
set_option maxRecDepth 100000 in
theorem wd_548 : (Jvm.Cond.fieldLink "ExpenseClubsModel" (82 : Nat) "ExpenseClubsModel" "ticked" "[Z") ∈ lw_tbl := List.mem_of_getElem? (i := 572) rfl
set_option maxRecDepth 100000 in
theorem wd_549 : (Jvm.Cond.fieldLink "ExpenseClubsModel" (85 : Nat) "ExpenseClubsModel" "weigh" "[J") ∈ lw_tbl := List.mem_of_getElem? (i := 573) rfl
set_option maxRecDepth 100000 in
theorem wd_550 : (Jvm.Cond.fieldLink "ExpenseClubsModel" (88 : Nat) "ExpenseClubsModel" "most" "[I") ∈ lw_tbl := List.mem_of_getElem? (i := 574) rfl
set_option maxRecDepth 100000 in
theorem wd_551 : (Jvm.Cond.lays "ExpenseClubsModel" "ExpenseClubsModel" "thrown" "I") ∈ lw_tbl := List.mem_of_getElem? (i := 575) rfl
set_option maxRecDepth 100000 in
theorem wd_552 : (Jvm.Cond.soleField "ExpenseClubsModel" "thrown") ∈ lw_tbl := List.mem_of_getElem? (i := 576) rfl
set_option maxRecDepth 100000 in
theorem wd_553 : (Jvm.Cond.lays "ExpenseClubsModel" "ExpenseClubsModel" "clubs" "I") ∈ lw_tbl := List.mem_of_getElem? (i := 577) rfl
set_option maxRecDepth 100000 in
theorem wd_554 : (Jvm.Cond.soleField "ExpenseClubsModel" "clubs") ∈ lw_tbl := List.mem_of_getElem? (i := 578) rfl
set_option maxRecDepth 100000 in
theorem wd_555 : (Jvm.Cond.laysFinal "ExpenseClubsModel" "ExpenseClubsModel" "members" "[I") ∈ lw_tbl := List.mem_of_getElem? (i := 579) rfl
set_option maxRecDepth 100000 in
theorem wd_556 : (Jvm.Cond.soleField "ExpenseClubsModel" "members") ∈ lw_tbl := List.mem_of_getElem? (i := 580) rfl
set_option maxRecDepth 100000 in
theorem wd_557 : (Jvm.Cond.laysFinal "ExpenseClubsModel" "ExpenseClubsModel" "marks" "[I") ∈ lw_tbl := List.mem_of_getElem? (i := 581) rfl
set_option maxRecDepth 100000 in
theorem wd_558 : (Jvm.Cond.soleField "ExpenseClubsModel" "marks") ∈ lw_tbl := List.mem_of_getElem? (i := 582) rfl
set_option maxRecDepth 100000 in
theorem wd_559 : (Jvm.Cond.laysFinal "ExpenseClubsModel" "ExpenseClubsModel" "left" "[Z") ∈ lw_tbl := List.mem_of_getElem? (i := 583) rfl
set_option maxRecDepth 100000 in
theorem wd_560 : (Jvm.Cond.soleField "ExpenseClubsModel" "left") ∈ lw_tbl := List.mem_of_getElem? (i := 584) rfl
set_option maxRecDepth 100000 in
theorem wd_561 : (Jvm.Cond.lays "ExpenseClubsModel" "ExpenseClubsModel" "draft" "I") ∈ lw_tbl := List.mem_of_getElem? (i := 585) rfl
set_option maxRecDepth 100000 in
theorem wd_562 : (Jvm.Cond.soleField "ExpenseClubsModel" "draft") ∈ lw_tbl := List.mem_of_getElem? (i := 586) rfl
set_option maxRecDepth 100000 in
theorem wd_563 : (Jvm.Cond.lays "ExpenseClubsModel" "ExpenseClubsModel" "way" "I") ∈ lw_tbl := List.mem_of_getElem? (i := 587) rfl
set_option maxRecDepth 100000 in
theorem wd_564 : (Jvm.Cond.soleField "ExpenseClubsModel" "way") ∈ lw_tbl := List.mem_of_getElem? (i := 588) rfl
set_option maxRecDepth 100000 in
theorem wd_565 : (Jvm.Cond.lays "ExpenseClubsModel" "ExpenseClubsModel" "cents" "I") ∈ lw_tbl := List.mem_of_getElem? (i := 589) rfl
set_option maxRecDepth 100000 in
theorem wd_566 : (Jvm.Cond.soleField "ExpenseClubsModel" "cents") ∈ lw_tbl := List.mem_of_getElem? (i := 590) rfl
set_option maxRecDepth 100000 in
theorem wd_567 : (Jvm.Cond.lays "ExpenseClubsModel" "ExpenseClubsModel" "rate" "I") ∈ lw_tbl := List.mem_of_getElem? (i := 591) rfl
set_option maxRecDepth 100000 in
theorem wd_568 : (Jvm.Cond.soleField "ExpenseClubsModel" "rate") ∈ lw_tbl := List.mem_of_getElem? (i := 592) rfl
set_option maxRecDepth 100000 in
theorem wd_569 : (Jvm.Cond.laysFinal "ExpenseClubsModel" "ExpenseClubsModel" "pays" "[I") ∈ lw_tbl := List.mem_of_getElem? (i := 593) rfl
set_option maxRecDepth 100000 in
theorem wd_570 : (Jvm.Cond.soleField "ExpenseClubsModel" "pays") ∈ lw_tbl := List.mem_of_getElem? (i := 594) rfl
set_option maxRecDepth 100000 in
theorem wd_571 : (Jvm.Cond.laysFinal "ExpenseClubsModel" "ExpenseClubsModel" "weights" "[I") ∈ lw_tbl := List.mem_of_getElem? (i := 595) rfl
set_option maxRecDepth 100000 in
theorem wd_572 : (Jvm.Cond.soleField "ExpenseClubsModel" "weights") ∈ lw_tbl := List.mem_of_getElem? (i := 596) rfl
set_option maxRecDepth 100000 in
theorem wd_573 : (Jvm.Cond.lays "ExpenseClubsModel" "ExpenseClubsModel" "lines" "I") ∈ lw_tbl := List.mem_of_getElem? (i := 597) rfl
set_option maxRecDepth 100000 in
theorem wd_574 : (Jvm.Cond.soleField "ExpenseClubsModel" "lines") ∈ lw_tbl := List.mem_of_getElem? (i := 598) rfl
set_option maxRecDepth 100000 in
theorem wd_575 : (Jvm.Cond.laysFinal "ExpenseClubsModel" "ExpenseClubsModel" "lineCents" "[I") ∈ lw_tbl := List.mem_of_getElem? (i := 599) rfl
set_option maxRecDepth 100000 in
theorem wd_576 : (Jvm.Cond.soleField "ExpenseClubsModel" "lineCents") ∈ lw_tbl := List.mem_of_getElem? (i := 600) rfl
set_option maxRecDepth 100000 in
theorem wd_577 : (Jvm.Cond.laysFinal "ExpenseClubsModel" "ExpenseClubsModel" "lineSets" "[I") ∈ lw_tbl := List.mem_of_getElem? (i := 601) rfl
set_option maxRecDepth 100000 in
theorem wd_578 : (Jvm.Cond.soleField "ExpenseClubsModel" "lineSets") ∈ lw_tbl := List.mem_of_getElem? (i := 602) rfl
set_option maxRecDepth 100000 in
theorem wd_579 : (Jvm.Cond.laysFinal "ExpenseClubsModel" "ExpenseClubsModel" "heavy" "[J") ∈ lw_tbl := List.mem_of_getElem? (i := 603) rfl
set_option maxRecDepth 100000 in
theorem wd_580 : (Jvm.Cond.soleField "ExpenseClubsModel" "heavy") ∈ lw_tbl := List.mem_of_getElem? (i := 604) rfl
set_option maxRecDepth 100000 in
theorem wd_581 : (Jvm.Cond.lays "ExpenseClubsModel" "ExpenseClubsModel" "bills" "I") ∈ lw_tbl := List.mem_of_getElem? (i := 605) rfl
set_option maxRecDepth 100000 in
theorem wd_582 : (Jvm.Cond.soleField "ExpenseClubsModel" "bills") ∈ lw_tbl := List.mem_of_getElem? (i := 606) rfl
set_option maxRecDepth 100000 in
theorem wd_583 : (Jvm.Cond.laysFinal "ExpenseClubsModel" "ExpenseClubsModel" "clubOf" "[I") ∈ lw_tbl := List.mem_of_getElem? (i := 607) rfl
set_option maxRecDepth 100000 in
theorem wd_584 : (Jvm.Cond.soleField "ExpenseClubsModel" "clubOf") ∈ lw_tbl := List.mem_of_getElem? (i := 608) rfl
set_option maxRecDepth 100000 in
theorem wd_585 : (Jvm.Cond.laysFinal "ExpenseClubsModel" "ExpenseClubsModel" "totals" "[J") ∈ lw_tbl := List.mem_of_getElem? (i := 609) rfl
set_option maxRecDepth 100000 in
theorem wd_586 : (Jvm.Cond.soleField "ExpenseClubsModel" "totals") ∈ lw_tbl := List.mem_of_getElem? (i := 610) rfl
set_option maxRecDepth 100000 in
theorem wd_587 : (Jvm.Cond.laysFinal "ExpenseClubsModel" "ExpenseClubsModel" "struck" "[Z") ∈ lw_tbl := List.mem_of_getElem? (i := 611) rfl
set_option maxRecDepth 100000 in
theorem wd_588 : (Jvm.Cond.soleField "ExpenseClubsModel" "struck") ∈ lw_tbl := List.mem_of_getElem? (i := 612) rfl
set_option maxRecDepth 100000 in
theorem wd_589 : (Jvm.Cond.laysFinal "ExpenseClubsModel" "ExpenseClubsModel" "shares" "[J") ∈ lw_tbl := List.mem_of_getElem? (i := 613) rfl
set_option maxRecDepth 100000 in
theorem wd_590 : (Jvm.Cond.soleField "ExpenseClubsModel" "shares") ∈ lw_tbl := List.mem_of_getElem? (i := 614) rfl
set_option maxRecDepth 100000 in
theorem wd_591 : (Jvm.Cond.laysFinal "ExpenseClubsModel" "ExpenseClubsModel" "paid" "[J") ∈ lw_tbl := List.mem_of_getElem? (i := 615) rfl
set_option maxRecDepth 100000 in
theorem wd_592 : (Jvm.Cond.soleField "ExpenseClubsModel" "paid") ∈ lw_tbl := List.mem_of_getElem? (i := 616) rfl
set_option maxRecDepth 100000 in
theorem wd_593 : (Jvm.Cond.laysFinal "ExpenseClubsModel" "ExpenseClubsModel" "drifts" "[J") ∈ lw_tbl := List.mem_of_getElem? (i := 617) rfl
set_option maxRecDepth 100000 in
theorem wd_594 : (Jvm.Cond.soleField "ExpenseClubsModel" "drifts") ∈ lw_tbl := List.mem_of_getElem? (i := 618) rfl
set_option maxRecDepth 100000 in
theorem wd_595 : (Jvm.Cond.laysFinal "ExpenseClubsModel" "ExpenseClubsModel" "sent" "[J") ∈ lw_tbl := List.mem_of_getElem? (i := 619) rfl
set_option maxRecDepth 100000 in
theorem wd_596 : (Jvm.Cond.soleField "ExpenseClubsModel" "sent") ∈ lw_tbl := List.mem_of_getElem? (i := 620) rfl
set_option maxRecDepth 100000 in
theorem wd_597 : (Jvm.Cond.laysFinal "ExpenseClubsModel" "ExpenseClubsModel" "open" "[Z") ∈ lw_tbl := List.mem_of_getElem? (i := 621) rfl
set_option maxRecDepth 100000 in
theorem wd_598 : (Jvm.Cond.soleField "ExpenseClubsModel" "open") ∈ lw_tbl := List.mem_of_getElem? (i := 622) rfl
set_option maxRecDepth 100000 in
theorem wd_599 : (Jvm.Cond.laysFinal "ExpenseClubsModel" "ExpenseClubsModel" "groups" "[I") ∈ lw_tbl := List.mem_of_getElem? (i := 623) rfl
set_option maxRecDepth 100000 in
theorem wd_600 : (Jvm.Cond.soleField "ExpenseClubsModel" "groups") ∈ lw_tbl := List.mem_of_getElem? (i := 624) rfl
set_option maxRecDepth 100000 in
theorem wd_601 : (Jvm.Cond.laysFinal "ExpenseClubsModel" "ExpenseClubsModel" "group" "[I") ∈ lw_tbl := List.mem_of_getElem? (i := 625) rfl
set_option maxRecDepth 100000 in
theorem wd_602 : (Jvm.Cond.soleField "ExpenseClubsModel" "group") ∈ lw_tbl := List.mem_of_getElem? (i := 626) rfl
set_option maxRecDepth 100000 in
theorem wd_603 : (Jvm.Cond.laysFinal "ExpenseClubsModel" "ExpenseClubsModel" "many" "[I") ∈ lw_tbl := List.mem_of_getElem? (i := 627) rfl
set_option maxRecDepth 100000 in
theorem wd_604 : (Jvm.Cond.soleField "ExpenseClubsModel" "many") ∈ lw_tbl := List.mem_of_getElem? (i := 628) rfl
set_option maxRecDepth 100000 in
theorem wd_605 : (Jvm.Cond.laysFinal "ExpenseClubsModel" "ExpenseClubsModel" "sends" "[I") ∈ lw_tbl := List.mem_of_getElem? (i := 629) rfl
set_option maxRecDepth 100000 in
theorem wd_606 : (Jvm.Cond.soleField "ExpenseClubsModel" "sends") ∈ lw_tbl := List.mem_of_getElem? (i := 630) rfl
set_option maxRecDepth 100000 in
theorem wd_607 : (Jvm.Cond.laysFinal "ExpenseClubsModel" "ExpenseClubsModel" "gets" "[I") ∈ lw_tbl := List.mem_of_getElem? (i := 631) rfl
set_option maxRecDepth 100000 in
theorem wd_608 : (Jvm.Cond.soleField "ExpenseClubsModel" "gets") ∈ lw_tbl := List.mem_of_getElem? (i := 632) rfl
set_option maxRecDepth 100000 in
theorem wd_609 : (Jvm.Cond.laysFinal "ExpenseClubsModel" "ExpenseClubsModel" "sums" "[J") ∈ lw_tbl := List.mem_of_getElem? (i := 633) rfl
set_option maxRecDepth 100000 in
theorem wd_610 : (Jvm.Cond.soleField "ExpenseClubsModel" "sums") ∈ lw_tbl := List.mem_of_getElem? (i := 634) rfl
set_option maxRecDepth 100000 in
theorem wd_611 : (Jvm.Cond.laysFinal "ExpenseClubsModel" "ExpenseClubsModel" "ticked" "[Z") ∈ lw_tbl := List.mem_of_getElem? (i := 635) rfl
set_option maxRecDepth 100000 in
theorem wd_612 : (Jvm.Cond.soleField "ExpenseClubsModel" "ticked") ∈ lw_tbl := List.mem_of_getElem? (i := 636) rfl
set_option maxRecDepth 100000 in
theorem wd_613 : (Jvm.Cond.laysFinal "ExpenseClubsModel" "ExpenseClubsModel" "weigh" "[J") ∈ lw_tbl := List.mem_of_getElem? (i := 637) rfl
set_option maxRecDepth 100000 in
theorem wd_614 : (Jvm.Cond.soleField "ExpenseClubsModel" "weigh") ∈ lw_tbl := List.mem_of_getElem? (i := 638) rfl
set_option maxRecDepth 100000 in
theorem wd_615 : (Jvm.Cond.laysFinal "ExpenseClubsModel" "ExpenseClubsModel" "most" "[I") ∈ lw_tbl := List.mem_of_getElem? (i := 639) rfl
set_option maxRecDepth 100000 in
theorem wd_616 : (Jvm.Cond.soleField "ExpenseClubsModel" "most") ∈ lw_tbl := List.mem_of_getElem? (i := 640) rfl
set_option maxRecDepth 100000 in
theorem wd_617 : (Jvm.Cond.superclass "ExpenseClubsModel" "java/lang/Object") ∈ lw_tbl := List.mem_of_getElem? (i := 641) rfl
set_option maxRecDepth 100000 in
theorem wd_618 : (Jvm.Cond.methodLink "ExpenseClubsLaw" (90 : Nat) ({ cls := "ExpenseClubsModel", name := "thrown", desc := "()I" } : Jvm.MethodName)) ∈ lw_tbl := List.mem_of_getElem? (i := 642) rfl
set_option maxRecDepth 100000 in
theorem wd_619 : (Jvm.Cond.instanceMethod ({ cls := "ExpenseClubsModel", name := "thrown", desc := "()I" } : Jvm.MethodName)) ∈ lw_tbl := List.mem_of_getElem? (i := 643) rfl
set_option maxRecDepth 100000 in
theorem wd_620 : (Jvm.Cond.selects "ExpenseClubsModel" ({ cls := "ExpenseClubsModel", name := "thrown", desc := "()I" } : Jvm.MethodName) ({ cls := "ExpenseClubsModel", name := "thrown", desc := "()I" } : Jvm.MethodName)) ∈ lw_tbl := List.mem_of_getElem? (i := 644) rfl
set_option maxRecDepth 100000 in
theorem wd_621 : (Jvm.Cond.code ({ cls := "ExpenseClubsModel", name := "thrown", desc := "()I" } : Jvm.MethodName) prog_8_method_2_code (1 : Nat) (Option.some Jvm.ClassFile.FieldType.int)) ∈ lw_tbl := List.mem_of_getElem? (i := 645) rfl
set_option maxRecDepth 100000 in
theorem wd_622 : (Jvm.Cond.methodLink "ExpenseClubsLaw" (25 : Nat) ({ cls := "ExpenseClubsModel", name := "club", desc := "()I" } : Jvm.MethodName)) ∈ lw_tbl := List.mem_of_getElem? (i := 646) rfl
set_option maxRecDepth 100000 in
theorem wd_623 : (Jvm.Cond.instanceMethod ({ cls := "ExpenseClubsModel", name := "club", desc := "()I" } : Jvm.MethodName)) ∈ lw_tbl := List.mem_of_getElem? (i := 647) rfl
set_option maxRecDepth 100000 in
theorem wd_624 : (Jvm.Cond.selects "ExpenseClubsModel" ({ cls := "ExpenseClubsModel", name := "club", desc := "()I" } : Jvm.MethodName) ({ cls := "ExpenseClubsModel", name := "club", desc := "()I" } : Jvm.MethodName)) ∈ lw_tbl := List.mem_of_getElem? (i := 648) rfl
set_option maxRecDepth 100000 in
theorem wd_625 : (Jvm.Cond.code ({ cls := "ExpenseClubsModel", name := "club", desc := "()I" } : Jvm.MethodName) prog_8_method_6_code (1 : Nat) (Option.some Jvm.ClassFile.FieldType.int)) ∈ lw_tbl := List.mem_of_getElem? (i := 649) rfl
set_option maxRecDepth 100000 in
theorem wd_626 : (Jvm.Cond.methodLink "ExpenseClubsLaw" (30 : Nat) ({ cls := "ExpenseClubsModel", name := "member", desc := "(I)I" } : Jvm.MethodName)) ∈ lw_tbl := List.mem_of_getElem? (i := 650) rfl
set_option maxRecDepth 100000 in
theorem wd_627 : (Jvm.Cond.instanceMethod ({ cls := "ExpenseClubsModel", name := "member", desc := "(I)I" } : Jvm.MethodName)) ∈ lw_tbl := List.mem_of_getElem? (i := 651) rfl
set_option maxRecDepth 100000 in
theorem wd_628 : (Jvm.Cond.selects "ExpenseClubsModel" ({ cls := "ExpenseClubsModel", name := "member", desc := "(I)I" } : Jvm.MethodName) ({ cls := "ExpenseClubsModel", name := "member", desc := "(I)I" } : Jvm.MethodName)) ∈ lw_tbl := List.mem_of_getElem? (i := 652) rfl
set_option maxRecDepth 100000 in
theorem wd_629 : (Jvm.Cond.code ({ cls := "ExpenseClubsModel", name := "member", desc := "(I)I" } : Jvm.MethodName) prog_8_method_7_code (2 : Nat) (Option.some Jvm.ClassFile.FieldType.int)) ∈ lw_tbl := List.mem_of_getElem? (i := 653) rfl
set_option maxRecDepth 100000 in
theorem wd_630 : (Jvm.Cond.methodLink "ExpenseClubsModel" (97 : Nat) ({ cls := "ExpenseClubsModel", name := "isClub", desc := "(I)Z" } : Jvm.MethodName)) ∈ lw_tbl := List.mem_of_getElem? (i := 654) rfl
set_option maxRecDepth 100000 in
theorem wd_631 : (Jvm.Cond.privateMethod ({ cls := "ExpenseClubsModel", name := "isClub", desc := "(I)Z" } : Jvm.MethodName)) ∈ lw_tbl := List.mem_of_getElem? (i := 655) rfl
set_option maxRecDepth 100000 in
theorem wd_632 : (Jvm.Cond.instanceMethod ({ cls := "ExpenseClubsModel", name := "isClub", desc := "(I)Z" } : Jvm.MethodName)) ∈ lw_tbl := List.mem_of_getElem? (i := 656) rfl
set_option maxRecDepth 100000 in
theorem wd_633 : (Jvm.Cond.code ({ cls := "ExpenseClubsModel", name := "isClub", desc := "(I)Z" } : Jvm.MethodName) prog_8_method_3_code (2 : Nat) (Option.some Jvm.ClassFile.FieldType.boolean)) ∈ lw_tbl := List.mem_of_getElem? (i := 657) rfl
set_option maxRecDepth 100000 in
theorem wd_634 : (Jvm.Cond.methodLink "ExpenseClubsLaw" (35 : Nat) ({ cls := "ExpenseClubsModel", name := "leave", desc := "(II)Z" } : Jvm.MethodName)) ∈ lw_tbl := List.mem_of_getElem? (i := 658) rfl
set_option maxRecDepth 100000 in
theorem wd_635 : (Jvm.Cond.instanceMethod ({ cls := "ExpenseClubsModel", name := "leave", desc := "(II)Z" } : Jvm.MethodName)) ∈ lw_tbl := List.mem_of_getElem? (i := 659) rfl
set_option maxRecDepth 100000 in
theorem wd_636 : (Jvm.Cond.selects "ExpenseClubsModel" ({ cls := "ExpenseClubsModel", name := "leave", desc := "(II)Z" } : Jvm.MethodName) ({ cls := "ExpenseClubsModel", name := "leave", desc := "(II)Z" } : Jvm.MethodName)) ∈ lw_tbl := List.mem_of_getElem? (i := 660) rfl
set_option maxRecDepth 100000 in
theorem wd_637 : (Jvm.Cond.code ({ cls := "ExpenseClubsModel", name := "leave", desc := "(II)Z" } : Jvm.MethodName) prog_8_method_8_code (3 : Nat) (Option.some Jvm.ClassFile.FieldType.boolean)) ∈ lw_tbl := List.mem_of_getElem? (i := 661) rfl
set_option maxRecDepth 100000 in
theorem wd_638 : (Jvm.Cond.methodLink "ExpenseClubsModel" (103 : Nat) ({ cls := "ExpenseClubsModel", name := "isMember", desc := "(II)Z" } : Jvm.MethodName)) ∈ lw_tbl := List.mem_of_getElem? (i := 662) rfl
set_option maxRecDepth 100000 in
theorem wd_639 : (Jvm.Cond.privateMethod ({ cls := "ExpenseClubsModel", name := "isMember", desc := "(II)Z" } : Jvm.MethodName)) ∈ lw_tbl := List.mem_of_getElem? (i := 663) rfl
set_option maxRecDepth 100000 in
theorem wd_640 : (Jvm.Cond.instanceMethod ({ cls := "ExpenseClubsModel", name := "isMember", desc := "(II)Z" } : Jvm.MethodName)) ∈ lw_tbl := List.mem_of_getElem? (i := 664) rfl
set_option maxRecDepth 100000 in
theorem wd_641 : (Jvm.Cond.code ({ cls := "ExpenseClubsModel", name := "isMember", desc := "(II)Z" } : Jvm.MethodName) prog_8_method_4_code (3 : Nat) (Option.some Jvm.ClassFile.FieldType.boolean)) ∈ lw_tbl := List.mem_of_getElem? (i := 665) rfl
set_option maxRecDepth 100000 in
theorem wd_642 : (Jvm.Cond.methodLink "ExpenseClubsModel" (107 : Nat) ({ cls := "ExpenseClubsModel", name := "balance", desc := "(II)J" } : Jvm.MethodName)) ∈ lw_tbl := List.mem_of_getElem? (i := 666) rfl
set_option maxRecDepth 100000 in
theorem wd_643 : (Jvm.Cond.instanceMethod ({ cls := "ExpenseClubsModel", name := "balance", desc := "(II)J" } : Jvm.MethodName)) ∈ lw_tbl := List.mem_of_getElem? (i := 667) rfl
set_option maxRecDepth 100000 in
theorem wd_644 : (Jvm.Cond.selects "ExpenseClubsModel" ({ cls := "ExpenseClubsModel", name := "balance", desc := "(II)J" } : Jvm.MethodName) ({ cls := "ExpenseClubsModel", name := "balance", desc := "(II)J" } : Jvm.MethodName)) ∈ lw_tbl := List.mem_of_getElem? (i := 668) rfl
set_option maxRecDepth 100000 in
theorem wd_645 : (Jvm.Cond.code ({ cls := "ExpenseClubsModel", name := "balance", desc := "(II)J" } : Jvm.MethodName) prog_8_method_25_code (6 : Nat) (Option.some Jvm.ClassFile.FieldType.long)) ∈ lw_tbl := List.mem_of_getElem? (i := 669) rfl
set_option maxRecDepth 100000 in
theorem wd_646 : (Jvm.Cond.methodLink "ExpenseClubsLaw" (40 : Nat) ({ cls := "ExpenseClubsModel", name := "bill", desc := "(IIII)Z" } : Jvm.MethodName)) ∈ lw_tbl := List.mem_of_getElem? (i := 670) rfl
set_option maxRecDepth 100000 in
theorem wd_647 : (Jvm.Cond.instanceMethod ({ cls := "ExpenseClubsModel", name := "bill", desc := "(IIII)Z" } : Jvm.MethodName)) ∈ lw_tbl := List.mem_of_getElem? (i := 671) rfl
set_option maxRecDepth 100000 in
theorem wd_648 : (Jvm.Cond.selects "ExpenseClubsModel" ({ cls := "ExpenseClubsModel", name := "bill", desc := "(IIII)Z" } : Jvm.MethodName) ({ cls := "ExpenseClubsModel", name := "bill", desc := "(IIII)Z" } : Jvm.MethodName)) ∈ lw_tbl := List.mem_of_getElem? (i := 672) rfl
set_option maxRecDepth 100000 in
theorem wd_649 : (Jvm.Cond.code ({ cls := "ExpenseClubsModel", name := "bill", desc := "(IIII)Z" } : Jvm.MethodName) prog_8_method_10_code (6 : Nat) (Option.some Jvm.ClassFile.FieldType.boolean)) ∈ lw_tbl := List.mem_of_getElem? (i := 673) rfl
set_option maxRecDepth 100000 in
theorem wd_650 : (Jvm.Cond.methodLink "ExpenseClubsModel" (111 : Nat) ({ cls := "ExpenseClubsModel", name := "within", desc := "(III)Z" } : Jvm.MethodName)) ∈ lw_tbl := List.mem_of_getElem? (i := 674) rfl
set_option maxRecDepth 100000 in
theorem wd_651 : (Jvm.Cond.static ({ cls := "ExpenseClubsModel", name := "within", desc := "(III)Z" } : Jvm.MethodName)) ∈ lw_tbl := List.mem_of_getElem? (i := 675) rfl
set_option maxRecDepth 100000 in
theorem wd_652 : (Jvm.Cond.code ({ cls := "ExpenseClubsModel", name := "within", desc := "(III)Z" } : Jvm.MethodName) prog_8_method_9_code (3 : Nat) (Option.some Jvm.ClassFile.FieldType.boolean)) ∈ lw_tbl := List.mem_of_getElem? (i := 676) rfl
set_option maxRecDepth 100000 in
theorem wd_653 : (Jvm.Cond.constant "ExpenseClubsModel" (115 : Nat) (100000000 : Int32)) ∈ lw_tbl := List.mem_of_getElem? (i := 677) rfl
set_option maxRecDepth 100000 in
theorem wd_654 : (Jvm.Cond.constant "ExpenseClubsModel" (116 : Nat) (1000000000 : Int32)) ∈ lw_tbl := List.mem_of_getElem? (i := 678) rfl
set_option maxRecDepth 100000 in
theorem wd_655 : (Jvm.Cond.methodLink "ExpenseClubsLaw" (44 : Nat) ({ cls := "ExpenseClubsModel", name := "payer", desc := "(II)Z" } : Jvm.MethodName)) ∈ lw_tbl := List.mem_of_getElem? (i := 679) rfl
set_option maxRecDepth 100000 in
theorem wd_656 : (Jvm.Cond.instanceMethod ({ cls := "ExpenseClubsModel", name := "payer", desc := "(II)Z" } : Jvm.MethodName)) ∈ lw_tbl := List.mem_of_getElem? (i := 680) rfl
set_option maxRecDepth 100000 in
theorem wd_657 : (Jvm.Cond.selects "ExpenseClubsModel" ({ cls := "ExpenseClubsModel", name := "payer", desc := "(II)Z" } : Jvm.MethodName) ({ cls := "ExpenseClubsModel", name := "payer", desc := "(II)Z" } : Jvm.MethodName)) ∈ lw_tbl := List.mem_of_getElem? (i := 681) rfl
set_option maxRecDepth 100000 in
theorem wd_658 : (Jvm.Cond.code ({ cls := "ExpenseClubsModel", name := "payer", desc := "(II)Z" } : Jvm.MethodName) prog_8_method_12_code (3 : Nat) (Option.some Jvm.ClassFile.FieldType.boolean)) ∈ lw_tbl := List.mem_of_getElem? (i := 682) rfl
set_option maxRecDepth 100000 in
theorem wd_659 : (Jvm.Cond.methodLink "ExpenseClubsModel" (129 : Nat) ({ cls := "ExpenseClubsModel", name := "stays", desc := "(I)Z" } : Jvm.MethodName)) ∈ lw_tbl := List.mem_of_getElem? (i := 683) rfl
set_option maxRecDepth 100000 in
theorem wd_660 : (Jvm.Cond.privateMethod ({ cls := "ExpenseClubsModel", name := "stays", desc := "(I)Z" } : Jvm.MethodName)) ∈ lw_tbl := List.mem_of_getElem? (i := 684) rfl
set_option maxRecDepth 100000 in
theorem wd_661 : (Jvm.Cond.instanceMethod ({ cls := "ExpenseClubsModel", name := "stays", desc := "(I)Z" } : Jvm.MethodName)) ∈ lw_tbl := List.mem_of_getElem? (i := 685) rfl
set_option maxRecDepth 100000 in
theorem wd_662 : (Jvm.Cond.code ({ cls := "ExpenseClubsModel", name := "stays", desc := "(I)Z" } : Jvm.MethodName) prog_8_method_11_code (2 : Nat) (Option.some Jvm.ClassFile.FieldType.boolean)) ∈ lw_tbl := List.mem_of_getElem? (i := 686) rfl
set_option maxRecDepth 100000 in
theorem wd_663 : (Jvm.Cond.methodLink "ExpenseClubsLaw" (48 : Nat) ({ cls := "ExpenseClubsModel", name := "weight", desc := "(II)Z" } : Jvm.MethodName)) ∈ lw_tbl := List.mem_of_getElem? (i := 687) rfl
set_option maxRecDepth 100000 in
theorem wd_664 : (Jvm.Cond.instanceMethod ({ cls := "ExpenseClubsModel", name := "weight", desc := "(II)Z" } : Jvm.MethodName)) ∈ lw_tbl := List.mem_of_getElem? (i := 688) rfl
set_option maxRecDepth 100000 in
theorem wd_665 : (Jvm.Cond.selects "ExpenseClubsModel" ({ cls := "ExpenseClubsModel", name := "weight", desc := "(II)Z" } : Jvm.MethodName) ({ cls := "ExpenseClubsModel", name := "weight", desc := "(II)Z" } : Jvm.MethodName)) ∈ lw_tbl := List.mem_of_getElem? (i := 689) rfl
set_option maxRecDepth 100000 in
theorem wd_666 : (Jvm.Cond.code ({ cls := "ExpenseClubsModel", name := "weight", desc := "(II)Z" } : Jvm.MethodName) prog_8_method_13_code (4 : Nat) (Option.some Jvm.ClassFile.FieldType.boolean)) ∈ lw_tbl := List.mem_of_getElem? (i := 690) rfl
set_option maxRecDepth 100000 in
theorem wd_667 : (Jvm.Cond.methodLink "ExpenseClubsLaw" (52 : Nat) ({ cls := "ExpenseClubsModel", name := "line", desc := "(II)Z" } : Jvm.MethodName)) ∈ lw_tbl := List.mem_of_getElem? (i := 691) rfl
set_option maxRecDepth 100000 in
theorem wd_668 : (Jvm.Cond.instanceMethod ({ cls := "ExpenseClubsModel", name := "line", desc := "(II)Z" } : Jvm.MethodName)) ∈ lw_tbl := List.mem_of_getElem? (i := 692) rfl
set_option maxRecDepth 100000 in
theorem wd_669 : (Jvm.Cond.selects "ExpenseClubsModel" ({ cls := "ExpenseClubsModel", name := "line", desc := "(II)Z" } : Jvm.MethodName) ({ cls := "ExpenseClubsModel", name := "line", desc := "(II)Z" } : Jvm.MethodName)) ∈ lw_tbl := List.mem_of_getElem? (i := 693) rfl
set_option maxRecDepth 100000 in
theorem wd_670 : (Jvm.Cond.code ({ cls := "ExpenseClubsModel", name := "line", desc := "(II)Z" } : Jvm.MethodName) prog_8_method_14_code (4 : Nat) (Option.some Jvm.ClassFile.FieldType.boolean)) ∈ lw_tbl := List.mem_of_getElem? (i := 694) rfl
set_option maxRecDepth 100000 in
theorem wd_671 : (Jvm.Cond.methodLink "ExpenseClubsLaw" (56 : Nat) ({ cls := "ExpenseClubsModel", name := "post", desc := "()I" } : Jvm.MethodName)) ∈ lw_tbl := List.mem_of_getElem? (i := 695) rfl
set_option maxRecDepth 100000 in
theorem wd_672 : (Jvm.Cond.instanceMethod ({ cls := "ExpenseClubsModel", name := "post", desc := "()I" } : Jvm.MethodName)) ∈ lw_tbl := List.mem_of_getElem? (i := 696) rfl
set_option maxRecDepth 100000 in
theorem wd_673 : (Jvm.Cond.selects "ExpenseClubsModel" ({ cls := "ExpenseClubsModel", name := "post", desc := "()I" } : Jvm.MethodName) ({ cls := "ExpenseClubsModel", name := "post", desc := "()I" } : Jvm.MethodName)) ∈ lw_tbl := List.mem_of_getElem? (i := 697) rfl
set_option maxRecDepth 100000 in
theorem wd_674 : (Jvm.Cond.code ({ cls := "ExpenseClubsModel", name := "post", desc := "()I" } : Jvm.MethodName) prog_8_method_19_code (8 : Nat) (Option.some Jvm.ClassFile.FieldType.int)) ∈ lw_tbl := List.mem_of_getElem? (i := 698) rfl
set_option maxRecDepth 100000 in
theorem wd_675 : (Jvm.Cond.methodLink "ExpenseClubsModel" (149 : Nat) ({ cls := "ExpenseClubsModel", name := "wrong", desc := "()I" } : Jvm.MethodName)) ∈ lw_tbl := List.mem_of_getElem? (i := 699) rfl
set_option maxRecDepth 100000 in
theorem wd_676 : (Jvm.Cond.privateMethod ({ cls := "ExpenseClubsModel", name := "wrong", desc := "()I" } : Jvm.MethodName)) ∈ lw_tbl := List.mem_of_getElem? (i := 700) rfl
set_option maxRecDepth 100000 in
theorem wd_677 : (Jvm.Cond.instanceMethod ({ cls := "ExpenseClubsModel", name := "wrong", desc := "()I" } : Jvm.MethodName)) ∈ lw_tbl := List.mem_of_getElem? (i := 701) rfl
set_option maxRecDepth 100000 in
theorem wd_678 : (Jvm.Cond.code ({ cls := "ExpenseClubsModel", name := "wrong", desc := "()I" } : Jvm.MethodName) prog_8_method_18_code (6 : Nat) (Option.some Jvm.ClassFile.FieldType.int)) ∈ lw_tbl := List.mem_of_getElem? (i := 702) rfl
set_option maxRecDepth 100000 in
theorem wd_679 : (Jvm.Cond.methodLink "ExpenseClubsModel" (141 : Nat) ({ cls := "ExpenseClubsModel", name := "weighs", desc := "()J" } : Jvm.MethodName)) ∈ lw_tbl := List.mem_of_getElem? (i := 703) rfl
set_option maxRecDepth 100000 in
theorem wd_680 : (Jvm.Cond.privateMethod ({ cls := "ExpenseClubsModel", name := "weighs", desc := "()J" } : Jvm.MethodName)) ∈ lw_tbl := List.mem_of_getElem? (i := 704) rfl
set_option maxRecDepth 100000 in
theorem wd_681 : (Jvm.Cond.instanceMethod ({ cls := "ExpenseClubsModel", name := "weighs", desc := "()J" } : Jvm.MethodName)) ∈ lw_tbl := List.mem_of_getElem? (i := 705) rfl
set_option maxRecDepth 100000 in
theorem wd_682 : (Jvm.Cond.code ({ cls := "ExpenseClubsModel", name := "weighs", desc := "()J" } : Jvm.MethodName) prog_8_method_16_code (5 : Nat) (Option.some Jvm.ClassFile.FieldType.long)) ∈ lw_tbl := List.mem_of_getElem? (i := 706) rfl
set_option maxRecDepth 100000 in
theorem wd_683 : (Jvm.Cond.methodLink "ExpenseClubsModel" (132 : Nat) ({ cls := "ExpenseClubsModel", name := "size", desc := "(I)I" } : Jvm.MethodName)) ∈ lw_tbl := List.mem_of_getElem? (i := 707) rfl
set_option maxRecDepth 100000 in
theorem wd_684 : (Jvm.Cond.static ({ cls := "ExpenseClubsModel", name := "size", desc := "(I)I" } : Jvm.MethodName)) ∈ lw_tbl := List.mem_of_getElem? (i := 708) rfl
set_option maxRecDepth 100000 in
theorem wd_685 : (Jvm.Cond.code ({ cls := "ExpenseClubsModel", name := "size", desc := "(I)I" } : Jvm.MethodName) prog_8_method_15_code (3 : Nat) (Option.some Jvm.ClassFile.FieldType.int)) ∈ lw_tbl := List.mem_of_getElem? (i := 709) rfl
set_option maxRecDepth 100000 in
theorem wd_686 : (Jvm.Cond.methodLink "ExpenseClubsModel" (145 : Nat) ({ cls := "ExpenseClubsModel", name := "fits", desc := "(J)Z" } : Jvm.MethodName)) ∈ lw_tbl := List.mem_of_getElem? (i := 710) rfl
set_option maxRecDepth 100000 in
theorem wd_687 : (Jvm.Cond.privateMethod ({ cls := "ExpenseClubsModel", name := "fits", desc := "(J)Z" } : Jvm.MethodName)) ∈ lw_tbl := List.mem_of_getElem? (i := 711) rfl
set_option maxRecDepth 100000 in
theorem wd_688 : (Jvm.Cond.instanceMethod ({ cls := "ExpenseClubsModel", name := "fits", desc := "(J)Z" } : Jvm.MethodName)) ∈ lw_tbl := List.mem_of_getElem? (i := 712) rfl
set_option maxRecDepth 100000 in
theorem wd_689 : (Jvm.Cond.code ({ cls := "ExpenseClubsModel", name := "fits", desc := "(J)Z" } : Jvm.MethodName) prog_8_method_17_code (6 : Nat) (Option.some Jvm.ClassFile.FieldType.boolean)) ∈ lw_tbl := List.mem_of_getElem? (i := 713) rfl
set_option maxRecDepth 100000 in
theorem wd_690 : (Jvm.Cond.constantLong "ExpenseClubsModel" (136 : Nat) (10000 : Int64)) ∈ lw_tbl := List.mem_of_getElem? (i := 714) rfl
set_option maxRecDepth 100000 in
theorem wd_691 : (Jvm.Cond.constantLong "ExpenseClubsModel" (153 : Nat) (500000 : Int64)) ∈ lw_tbl := List.mem_of_getElem? (i := 715) rfl
set_option maxRecDepth 100000 in
theorem wd_692 : (Jvm.Cond.constantLong "ExpenseClubsModel" (155 : Nat) (1000000 : Int64)) ∈ lw_tbl := List.mem_of_getElem? (i := 716) rfl
set_option maxRecDepth 100000 in
theorem wd_693 : (Jvm.Cond.methodLink "ExpenseClubsModel" (157 : Nat) ({ cls := "ExpenseClubsModel", name := "pay", desc := "(IJ)V" } : Jvm.MethodName)) ∈ lw_tbl := List.mem_of_getElem? (i := 717) rfl
set_option maxRecDepth 100000 in
theorem wd_694 : (Jvm.Cond.privateMethod ({ cls := "ExpenseClubsModel", name := "pay", desc := "(IJ)V" } : Jvm.MethodName)) ∈ lw_tbl := List.mem_of_getElem? (i := 718) rfl
set_option maxRecDepth 100000 in
theorem wd_695 : (Jvm.Cond.instanceMethod ({ cls := "ExpenseClubsModel", name := "pay", desc := "(IJ)V" } : Jvm.MethodName)) ∈ lw_tbl := List.mem_of_getElem? (i := 719) rfl
set_option maxRecDepth 100000 in
theorem wd_696 : (Jvm.Cond.code ({ cls := "ExpenseClubsModel", name := "pay", desc := "(IJ)V" } : Jvm.MethodName) prog_8_method_20_code (7 : Nat) (Option.none : Option Jvm.ClassFile.FieldType)) ∈ lw_tbl := List.mem_of_getElem? (i := 720) rfl
set_option maxRecDepth 100000 in
theorem wd_697 : (Jvm.Cond.methodLink "ExpenseClubsModel" (167 : Nat) ({ cls := "ExpenseClubsModel", name := "part", desc := "(JJJ)J" } : Jvm.MethodName)) ∈ lw_tbl := List.mem_of_getElem? (i := 721) rfl
set_option maxRecDepth 100000 in
theorem wd_698 : (Jvm.Cond.static ({ cls := "ExpenseClubsModel", name := "part", desc := "(JJJ)J" } : Jvm.MethodName)) ∈ lw_tbl := List.mem_of_getElem? (i := 722) rfl
set_option maxRecDepth 100000 in
theorem wd_699 : (Jvm.Cond.code ({ cls := "ExpenseClubsModel", name := "part", desc := "(JJJ)J" } : Jvm.MethodName) prog_8_method_5_code (11 : Nat) (Option.some Jvm.ClassFile.FieldType.long)) ∈ lw_tbl := List.mem_of_getElem? (i := 723) rfl
set_option maxRecDepth 100000 in
theorem wd_700 : (Jvm.Cond.constantLong "ExpenseClubsModel" (101 : Nat) (2 : Int64)) ∈ lw_tbl := List.mem_of_getElem? (i := 724) rfl
set_option maxRecDepth 100000 in
theorem wd_701 : (Jvm.Cond.methodLink "ExpenseClubsModel" (161 : Nat) ({ cls := "ExpenseClubsModel", name := "share", desc := "(IJJ)V" } : Jvm.MethodName)) ∈ lw_tbl := List.mem_of_getElem? (i := 725) rfl
set_option maxRecDepth 100000 in
theorem wd_702 : (Jvm.Cond.privateMethod ({ cls := "ExpenseClubsModel", name := "share", desc := "(IJJ)V" } : Jvm.MethodName)) ∈ lw_tbl := List.mem_of_getElem? (i := 726) rfl
set_option maxRecDepth 100000 in
theorem wd_703 : (Jvm.Cond.instanceMethod ({ cls := "ExpenseClubsModel", name := "share", desc := "(IJJ)V" } : Jvm.MethodName)) ∈ lw_tbl := List.mem_of_getElem? (i := 727) rfl
set_option maxRecDepth 100000 in
theorem wd_704 : (Jvm.Cond.code ({ cls := "ExpenseClubsModel", name := "share", desc := "(IJJ)V" } : Jvm.MethodName) prog_8_method_21_code (9 : Nat) (Option.none : Option Jvm.ClassFile.FieldType)) ∈ lw_tbl := List.mem_of_getElem? (i := 728) rfl
set_option maxRecDepth 100000 in
theorem wd_705 : (Jvm.Cond.constantLong "ExpenseClubsModel" (165 : Nat) (1000 : Int64)) ∈ lw_tbl := List.mem_of_getElem? (i := 729) rfl
set_option maxRecDepth 100000 in
theorem wd_706 : (Jvm.Cond.methodLink "ExpenseClubsLaw" (61 : Nat) ({ cls := "ExpenseClubsModel", name := "strike", desc := "(I)Z" } : Jvm.MethodName)) ∈ lw_tbl := List.mem_of_getElem? (i := 730) rfl
set_option maxRecDepth 100000 in
theorem wd_707 : (Jvm.Cond.instanceMethod ({ cls := "ExpenseClubsModel", name := "strike", desc := "(I)Z" } : Jvm.MethodName)) ∈ lw_tbl := List.mem_of_getElem? (i := 731) rfl
set_option maxRecDepth 100000 in
theorem wd_708 : (Jvm.Cond.selects "ExpenseClubsModel" ({ cls := "ExpenseClubsModel", name := "strike", desc := "(I)Z" } : Jvm.MethodName) ({ cls := "ExpenseClubsModel", name := "strike", desc := "(I)Z" } : Jvm.MethodName)) ∈ lw_tbl := List.mem_of_getElem? (i := 732) rfl
set_option maxRecDepth 100000 in
theorem wd_709 : (Jvm.Cond.code ({ cls := "ExpenseClubsModel", name := "strike", desc := "(I)Z" } : Jvm.MethodName) prog_8_method_22_code (2 : Nat) (Option.some Jvm.ClassFile.FieldType.boolean)) ∈ lw_tbl := List.mem_of_getElem? (i := 733) rfl
set_option maxRecDepth 100000 in
theorem wd_710 : (Jvm.Cond.methodLink "ExpenseClubsLaw" (65 : Nat) ({ cls := "ExpenseClubsModel", name := "about", desc := "(III)J" } : Jvm.MethodName)) ∈ lw_tbl := List.mem_of_getElem? (i := 734) rfl
set_option maxRecDepth 100000 in
theorem wd_711 : (Jvm.Cond.instanceMethod ({ cls := "ExpenseClubsModel", name := "about", desc := "(III)J" } : Jvm.MethodName)) ∈ lw_tbl := List.mem_of_getElem? (i := 735) rfl
set_option maxRecDepth 100000 in
theorem wd_712 : (Jvm.Cond.selects "ExpenseClubsModel" ({ cls := "ExpenseClubsModel", name := "about", desc := "(III)J" } : Jvm.MethodName) ({ cls := "ExpenseClubsModel", name := "about", desc := "(III)J" } : Jvm.MethodName)) ∈ lw_tbl := List.mem_of_getElem? (i := 736) rfl
set_option maxRecDepth 100000 in
theorem wd_713 : (Jvm.Cond.code ({ cls := "ExpenseClubsModel", name := "about", desc := "(III)J" } : Jvm.MethodName) prog_8_method_23_code (4 : Nat) (Option.some Jvm.ClassFile.FieldType.long)) ∈ lw_tbl := List.mem_of_getElem? (i := 737) rfl
set_option maxRecDepth 100000 in
theorem wd_714 : (Jvm.Cond.constantLong "ExpenseClubsModel" (171 : Nat) (-1 : Int64)) ∈ lw_tbl := List.mem_of_getElem? (i := 738) rfl
set_option maxRecDepth 100000 in
theorem wd_715 : (Jvm.Cond.methodLink "ExpenseClubsLaw" (70 : Nat) ({ cls := "ExpenseClubsModel", name := "total", desc := "(I)J" } : Jvm.MethodName)) ∈ lw_tbl := List.mem_of_getElem? (i := 739) rfl
set_option maxRecDepth 100000 in
theorem wd_716 : (Jvm.Cond.instanceMethod ({ cls := "ExpenseClubsModel", name := "total", desc := "(I)J" } : Jvm.MethodName)) ∈ lw_tbl := List.mem_of_getElem? (i := 740) rfl
set_option maxRecDepth 100000 in
theorem wd_717 : (Jvm.Cond.selects "ExpenseClubsModel" ({ cls := "ExpenseClubsModel", name := "total", desc := "(I)J" } : Jvm.MethodName) ({ cls := "ExpenseClubsModel", name := "total", desc := "(I)J" } : Jvm.MethodName)) ∈ lw_tbl := List.mem_of_getElem? (i := 741) rfl
set_option maxRecDepth 100000 in
theorem wd_718 : (Jvm.Cond.code ({ cls := "ExpenseClubsModel", name := "total", desc := "(I)J" } : Jvm.MethodName) prog_8_method_24_code (2 : Nat) (Option.some Jvm.ClassFile.FieldType.long)) ∈ lw_tbl := List.mem_of_getElem? (i := 742) rfl
set_option maxRecDepth 100000 in
theorem wd_719 : (Jvm.Cond.methodLink "ExpenseClubsLaw" (75 : Nat) ({ cls := "ExpenseClubsModel", name := "balance", desc := "(II)J" } : Jvm.MethodName)) ∈ lw_tbl := List.mem_of_getElem? (i := 743) rfl
set_option maxRecDepth 100000 in
theorem wd_720 : (Jvm.Cond.methodLink "ExpenseClubsLaw" (79 : Nat) ({ cls := "ExpenseClubsModel", name := "drift", desc := "(II)J" } : Jvm.MethodName)) ∈ lw_tbl := List.mem_of_getElem? (i := 744) rfl
set_option maxRecDepth 100000 in
theorem wd_721 : (Jvm.Cond.instanceMethod ({ cls := "ExpenseClubsModel", name := "drift", desc := "(II)J" } : Jvm.MethodName)) ∈ lw_tbl := List.mem_of_getElem? (i := 745) rfl
set_option maxRecDepth 100000 in
theorem wd_722 : (Jvm.Cond.selects "ExpenseClubsModel" ({ cls := "ExpenseClubsModel", name := "drift", desc := "(II)J" } : Jvm.MethodName) ({ cls := "ExpenseClubsModel", name := "drift", desc := "(II)J" } : Jvm.MethodName)) ∈ lw_tbl := List.mem_of_getElem? (i := 746) rfl
set_option maxRecDepth 100000 in
theorem wd_723 : (Jvm.Cond.code ({ cls := "ExpenseClubsModel", name := "drift", desc := "(II)J" } : Jvm.MethodName) prog_8_method_26_code (6 : Nat) (Option.some Jvm.ClassFile.FieldType.long)) ∈ lw_tbl := List.mem_of_getElem? (i := 747) rfl
set_option maxRecDepth 100000 in
theorem wd_724 : (Jvm.Cond.methodLink "ExpenseClubsLaw" (83 : Nat) ({ cls := "ExpenseClubsModel", name := "settle", desc := "(I)I" } : Jvm.MethodName)) ∈ lw_tbl := List.mem_of_getElem? (i := 748) rfl
set_option maxRecDepth 100000 in
theorem wd_725 : (Jvm.Cond.instanceMethod ({ cls := "ExpenseClubsModel", name := "settle", desc := "(I)I" } : Jvm.MethodName)) ∈ lw_tbl := List.mem_of_getElem? (i := 749) rfl
set_option maxRecDepth 100000 in
theorem wd_726 : (Jvm.Cond.selects "ExpenseClubsModel" ({ cls := "ExpenseClubsModel", name := "settle", desc := "(I)I" } : Jvm.MethodName) ({ cls := "ExpenseClubsModel", name := "settle", desc := "(I)I" } : Jvm.MethodName)) ∈ lw_tbl := List.mem_of_getElem? (i := 750) rfl
set_option maxRecDepth 100000 in
theorem wd_727 : (Jvm.Cond.code ({ cls := "ExpenseClubsModel", name := "settle", desc := "(I)I" } : Jvm.MethodName) prog_8_method_32_code (4 : Nat) (Option.some Jvm.ClassFile.FieldType.int)) ∈ lw_tbl := List.mem_of_getElem? (i := 751) rfl
set_option maxRecDepth 100000 in
theorem wd_728 : (Jvm.Cond.methodLink "ExpenseClubsModel" (176 : Nat) ({ cls := "ExpenseClubsModel", name := "weighAll", desc := "(I)V" } : Jvm.MethodName)) ∈ lw_tbl := List.mem_of_getElem? (i := 752) rfl
set_option maxRecDepth 100000 in
theorem wd_729 : (Jvm.Cond.privateMethod ({ cls := "ExpenseClubsModel", name := "weighAll", desc := "(I)V" } : Jvm.MethodName)) ∈ lw_tbl := List.mem_of_getElem? (i := 753) rfl
set_option maxRecDepth 100000 in
theorem wd_730 : (Jvm.Cond.instanceMethod ({ cls := "ExpenseClubsModel", name := "weighAll", desc := "(I)V" } : Jvm.MethodName)) ∈ lw_tbl := List.mem_of_getElem? (i := 754) rfl
set_option maxRecDepth 100000 in
theorem wd_731 : (Jvm.Cond.code ({ cls := "ExpenseClubsModel", name := "weighAll", desc := "(I)V" } : Jvm.MethodName) prog_8_method_29_code (4 : Nat) (Option.none : Option Jvm.ClassFile.FieldType)) ∈ lw_tbl := List.mem_of_getElem? (i := 755) rfl
set_option maxRecDepth 100000 in
theorem wd_732 : (Jvm.Cond.methodLink "ExpenseClubsModel" (173 : Nat) ({ cls := "ExpenseClubsModel", name := "lowest", desc := "(I)I" } : Jvm.MethodName)) ∈ lw_tbl := List.mem_of_getElem? (i := 756) rfl
set_option maxRecDepth 100000 in
theorem wd_733 : (Jvm.Cond.static ({ cls := "ExpenseClubsModel", name := "lowest", desc := "(I)I" } : Jvm.MethodName)) ∈ lw_tbl := List.mem_of_getElem? (i := 757) rfl
set_option maxRecDepth 100000 in
theorem wd_734 : (Jvm.Cond.code ({ cls := "ExpenseClubsModel", name := "lowest", desc := "(I)I" } : Jvm.MethodName) prog_8_method_27_code (2 : Nat) (Option.some Jvm.ClassFile.FieldType.int)) ∈ lw_tbl := List.mem_of_getElem? (i := 758) rfl
set_option maxRecDepth 100000 in
theorem wd_735 : (Jvm.Cond.methodLink "ExpenseClubsModel" (180 : Nat) ({ cls := "ExpenseClubsModel", name := "divides", desc := "()V" } : Jvm.MethodName)) ∈ lw_tbl := List.mem_of_getElem? (i := 759) rfl
set_option maxRecDepth 100000 in
theorem wd_736 : (Jvm.Cond.privateMethod ({ cls := "ExpenseClubsModel", name := "divides", desc := "()V" } : Jvm.MethodName)) ∈ lw_tbl := List.mem_of_getElem? (i := 760) rfl
set_option maxRecDepth 100000 in
theorem wd_737 : (Jvm.Cond.instanceMethod ({ cls := "ExpenseClubsModel", name := "divides", desc := "()V" } : Jvm.MethodName)) ∈ lw_tbl := List.mem_of_getElem? (i := 761) rfl
set_option maxRecDepth 100000 in
theorem wd_738 : (Jvm.Cond.code ({ cls := "ExpenseClubsModel", name := "divides", desc := "()V" } : Jvm.MethodName) prog_8_method_28_code (8 : Nat) (Option.none : Option Jvm.ClassFile.FieldType)) ∈ lw_tbl := List.mem_of_getElem? (i := 762) rfl
set_option maxRecDepth 100000 in
theorem wd_739 : (Jvm.Cond.methodLink "ExpenseClubsModel" (183 : Nat) ({ cls := "ExpenseClubsModel", name := "least", desc := "(I)I" } : Jvm.MethodName)) ∈ lw_tbl := List.mem_of_getElem? (i := 763) rfl
set_option maxRecDepth 100000 in
theorem wd_740 : (Jvm.Cond.privateMethod ({ cls := "ExpenseClubsModel", name := "least", desc := "(I)I" } : Jvm.MethodName)) ∈ lw_tbl := List.mem_of_getElem? (i := 764) rfl
set_option maxRecDepth 100000 in
theorem wd_741 : (Jvm.Cond.instanceMethod ({ cls := "ExpenseClubsModel", name := "least", desc := "(I)I" } : Jvm.MethodName)) ∈ lw_tbl := List.mem_of_getElem? (i := 765) rfl
set_option maxRecDepth 100000 in
theorem wd_742 : (Jvm.Cond.code ({ cls := "ExpenseClubsModel", name := "least", desc := "(I)I" } : Jvm.MethodName) prog_8_method_30_code (4 : Nat) (Option.some Jvm.ClassFile.FieldType.int)) ∈ lw_tbl := List.mem_of_getElem? (i := 766) rfl
set_option maxRecDepth 100000 in
theorem wd_743 : (Jvm.Cond.methodLink "ExpenseClubsModel" (186 : Nat) ({ cls := "ExpenseClubsModel", name := "moves", desc := "(II)V" } : Jvm.MethodName)) ∈ lw_tbl := List.mem_of_getElem? (i := 767) rfl
set_option maxRecDepth 100000 in
theorem wd_744 : (Jvm.Cond.privateMethod ({ cls := "ExpenseClubsModel", name := "moves", desc := "(II)V" } : Jvm.MethodName)) ∈ lw_tbl := List.mem_of_getElem? (i := 768) rfl
set_option maxRecDepth 100000 in
theorem wd_745 : (Jvm.Cond.instanceMethod ({ cls := "ExpenseClubsModel", name := "moves", desc := "(II)V" } : Jvm.MethodName)) ∈ lw_tbl := List.mem_of_getElem? (i := 769) rfl
set_option maxRecDepth 100000 in
theorem wd_746 : (Jvm.Cond.code ({ cls := "ExpenseClubsModel", name := "moves", desc := "(II)V" } : Jvm.MethodName) prog_8_method_31_code (8 : Nat) (Option.none : Option Jvm.ClassFile.FieldType)) ∈ lw_tbl := List.mem_of_getElem? (i := 770) rfl
set_option maxRecDepth 100000 in
theorem wd_747 : (Jvm.Cond.methodLink "ExpenseClubsLaw" (89 : Nat) ({ cls := "ExpenseClubsModel", name := "transfer", desc := "(III)J" } : Jvm.MethodName)) ∈ lw_tbl := List.mem_of_getElem? (i := 771) rfl
set_option maxRecDepth 100000 in
theorem wd_748 : (Jvm.Cond.instanceMethod ({ cls := "ExpenseClubsModel", name := "transfer", desc := "(III)J" } : Jvm.MethodName)) ∈ lw_tbl := List.mem_of_getElem? (i := 772) rfl
set_option maxRecDepth 100000 in
theorem wd_749 : (Jvm.Cond.selects "ExpenseClubsModel" ({ cls := "ExpenseClubsModel", name := "transfer", desc := "(III)J" } : Jvm.MethodName) ({ cls := "ExpenseClubsModel", name := "transfer", desc := "(III)J" } : Jvm.MethodName)) ∈ lw_tbl := List.mem_of_getElem? (i := 773) rfl
set_option maxRecDepth 100000 in
theorem wd_750 : (Jvm.Cond.code ({ cls := "ExpenseClubsModel", name := "transfer", desc := "(III)J" } : Jvm.MethodName) prog_8_method_34_code (5 : Nat) (Option.some Jvm.ClassFile.FieldType.long)) ∈ lw_tbl := List.mem_of_getElem? (i := 774) rfl
set_option maxRecDepth 100000 in
theorem wd_751 : (Jvm.Cond.methodLink "ExpenseClubsModel" (190 : Nat) ({ cls := "ExpenseClubsModel", name := "isTransfer", desc := "(II)Z" } : Jvm.MethodName)) ∈ lw_tbl := List.mem_of_getElem? (i := 775) rfl
set_option maxRecDepth 100000 in
theorem wd_752 : (Jvm.Cond.privateMethod ({ cls := "ExpenseClubsModel", name := "isTransfer", desc := "(II)Z" } : Jvm.MethodName)) ∈ lw_tbl := List.mem_of_getElem? (i := 776) rfl
set_option maxRecDepth 100000 in
theorem wd_753 : (Jvm.Cond.instanceMethod ({ cls := "ExpenseClubsModel", name := "isTransfer", desc := "(II)Z" } : Jvm.MethodName)) ∈ lw_tbl := List.mem_of_getElem? (i := 777) rfl
set_option maxRecDepth 100000 in
theorem wd_754 : (Jvm.Cond.code ({ cls := "ExpenseClubsModel", name := "isTransfer", desc := "(II)Z" } : Jvm.MethodName) prog_8_method_33_code (3 : Nat) (Option.some Jvm.ClassFile.FieldType.boolean)) ∈ lw_tbl := List.mem_of_getElem? (i := 778) rfl
set_option maxRecDepth 100000 in
theorem wd_755 : (Jvm.Cond.methodLink "ExpenseClubsLaw" (96 : Nat) ({ cls := "ExpenseClubsModel", name := "tick", desc := "(II)Z" } : Jvm.MethodName)) ∈ lw_tbl := List.mem_of_getElem? (i := 779) rfl
set_option maxRecDepth 100000 in
theorem wd_756 : (Jvm.Cond.instanceMethod ({ cls := "ExpenseClubsModel", name := "tick", desc := "(II)Z" } : Jvm.MethodName)) ∈ lw_tbl := List.mem_of_getElem? (i := 780) rfl
set_option maxRecDepth 100000 in
theorem wd_757 : (Jvm.Cond.selects "ExpenseClubsModel" ({ cls := "ExpenseClubsModel", name := "tick", desc := "(II)Z" } : Jvm.MethodName) ({ cls := "ExpenseClubsModel", name := "tick", desc := "(II)Z" } : Jvm.MethodName)) ∈ lw_tbl := List.mem_of_getElem? (i := 781) rfl
set_option maxRecDepth 100000 in
theorem wd_758 : (Jvm.Cond.code ({ cls := "ExpenseClubsModel", name := "tick", desc := "(II)Z" } : Jvm.MethodName) prog_8_method_35_code (4 : Nat) (Option.some Jvm.ClassFile.FieldType.boolean)) ∈ lw_tbl := List.mem_of_getElem? (i := 782) rfl
set_option maxRecDepth 100000 in
theorem wd_759 : (Jvm.Cond.methodLink "ExpenseClubsLaw" (100 : Nat) ({ cls := "ExpenseClubsModel", name := "giveUp", desc := "(I)I" } : Jvm.MethodName)) ∈ lw_tbl := List.mem_of_getElem? (i := 783) rfl
set_option maxRecDepth 100000 in
theorem wd_760 : (Jvm.Cond.instanceMethod ({ cls := "ExpenseClubsModel", name := "giveUp", desc := "(I)I" } : Jvm.MethodName)) ∈ lw_tbl := List.mem_of_getElem? (i := 784) rfl
set_option maxRecDepth 100000 in
theorem wd_761 : (Jvm.Cond.selects "ExpenseClubsModel" ({ cls := "ExpenseClubsModel", name := "giveUp", desc := "(I)I" } : Jvm.MethodName) ({ cls := "ExpenseClubsModel", name := "giveUp", desc := "(I)I" } : Jvm.MethodName)) ∈ lw_tbl := List.mem_of_getElem? (i := 785) rfl
set_option maxRecDepth 100000 in
theorem wd_762 : (Jvm.Cond.code ({ cls := "ExpenseClubsModel", name := "giveUp", desc := "(I)I" } : Jvm.MethodName) prog_8_method_37_code (2 : Nat) (Option.some Jvm.ClassFile.FieldType.int)) ∈ lw_tbl := List.mem_of_getElem? (i := 786) rfl
set_option maxRecDepth 100000 in
theorem wd_763 : (Jvm.Cond.methodLink "ExpenseClubsModel" (193 : Nat) ({ cls := "ExpenseClubsModel", name := "unticked", desc := "(I)I" } : Jvm.MethodName)) ∈ lw_tbl := List.mem_of_getElem? (i := 787) rfl
set_option maxRecDepth 100000 in
theorem wd_764 : (Jvm.Cond.privateMethod ({ cls := "ExpenseClubsModel", name := "unticked", desc := "(I)I" } : Jvm.MethodName)) ∈ lw_tbl := List.mem_of_getElem? (i := 788) rfl
set_option maxRecDepth 100000 in
theorem wd_765 : (Jvm.Cond.instanceMethod ({ cls := "ExpenseClubsModel", name := "unticked", desc := "(I)I" } : Jvm.MethodName)) ∈ lw_tbl := List.mem_of_getElem? (i := 789) rfl
set_option maxRecDepth 100000 in
theorem wd_766 : (Jvm.Cond.code ({ cls := "ExpenseClubsModel", name := "unticked", desc := "(I)I" } : Jvm.MethodName) prog_8_method_36_code (4 : Nat) (Option.some Jvm.ClassFile.FieldType.int)) ∈ lw_tbl := List.mem_of_getElem? (i := 790) rfl
set_option maxRecDepth 100000 in
theorem wd_767 : (Jvm.Cond.methodLink "ExpenseClubsLaw" (104 : Nat) ({ cls := "ExpenseClubsModel", name := "close", desc := "(I)Z" } : Jvm.MethodName)) ∈ lw_tbl := List.mem_of_getElem? (i := 791) rfl
set_option maxRecDepth 100000 in
theorem wd_768 : (Jvm.Cond.instanceMethod ({ cls := "ExpenseClubsModel", name := "close", desc := "(I)Z" } : Jvm.MethodName)) ∈ lw_tbl := List.mem_of_getElem? (i := 792) rfl
set_option maxRecDepth 100000 in
theorem wd_769 : (Jvm.Cond.selects "ExpenseClubsModel" ({ cls := "ExpenseClubsModel", name := "close", desc := "(I)Z" } : Jvm.MethodName) ({ cls := "ExpenseClubsModel", name := "close", desc := "(I)Z" } : Jvm.MethodName)) ∈ lw_tbl := List.mem_of_getElem? (i := 793) rfl
set_option maxRecDepth 100000 in
theorem wd_770 : (Jvm.Cond.code ({ cls := "ExpenseClubsModel", name := "close", desc := "(I)Z" } : Jvm.MethodName) prog_8_method_38_code (2 : Nat) (Option.some Jvm.ClassFile.FieldType.boolean)) ∈ lw_tbl := List.mem_of_getElem? (i := 794) rfl
set_option maxRecDepth 100000 in
theorem wd_771 : (Jvm.Cond.methodLink "ExpenseClubsLaw" (109 : Nat) ({ cls := "ExpenseClubsModel", name := "count", desc := "(II)I" } : Jvm.MethodName)) ∈ lw_tbl := List.mem_of_getElem? (i := 795) rfl
set_option maxRecDepth 100000 in
theorem wd_772 : (Jvm.Cond.instanceMethod ({ cls := "ExpenseClubsModel", name := "count", desc := "(II)I" } : Jvm.MethodName)) ∈ lw_tbl := List.mem_of_getElem? (i := 796) rfl
set_option maxRecDepth 100000 in
theorem wd_773 : (Jvm.Cond.selects "ExpenseClubsModel" ({ cls := "ExpenseClubsModel", name := "count", desc := "(II)I" } : Jvm.MethodName) ({ cls := "ExpenseClubsModel", name := "count", desc := "(II)I" } : Jvm.MethodName)) ∈ lw_tbl := List.mem_of_getElem? (i := 797) rfl
set_option maxRecDepth 100000 in
theorem wd_774 : (Jvm.Cond.code ({ cls := "ExpenseClubsModel", name := "count", desc := "(II)I" } : Jvm.MethodName) prog_8_method_39_code (3 : Nat) (Option.some Jvm.ClassFile.FieldType.int)) ∈ lw_tbl := List.mem_of_getElem? (i := 798) rfl
set_option maxRecDepth 100000 in
theorem wd_775 : (Jvm.Cond.methodLink "ExpenseClubsLaw" (113 : Nat) ({ cls := "ExpenseClubsModel", name := "groupOf", desc := "(II)I" } : Jvm.MethodName)) ∈ lw_tbl := List.mem_of_getElem? (i := 799) rfl
set_option maxRecDepth 100000 in
theorem wd_776 : (Jvm.Cond.instanceMethod ({ cls := "ExpenseClubsModel", name := "groupOf", desc := "(II)I" } : Jvm.MethodName)) ∈ lw_tbl := List.mem_of_getElem? (i := 800) rfl
set_option maxRecDepth 100000 in
theorem wd_777 : (Jvm.Cond.selects "ExpenseClubsModel" ({ cls := "ExpenseClubsModel", name := "groupOf", desc := "(II)I" } : Jvm.MethodName) ({ cls := "ExpenseClubsModel", name := "groupOf", desc := "(II)I" } : Jvm.MethodName)) ∈ lw_tbl := List.mem_of_getElem? (i := 801) rfl
set_option maxRecDepth 100000 in
theorem wd_778 : (Jvm.Cond.code ({ cls := "ExpenseClubsModel", name := "groupOf", desc := "(II)I" } : Jvm.MethodName) prog_8_method_40_code (3 : Nat) (Option.some Jvm.ClassFile.FieldType.int)) ∈ lw_tbl := List.mem_of_getElem? (i := 802) rfl
set_option maxRecDepth 100000 in
theorem wd_779 : (Jvm.Cond.sameMethod "java/lang/Throwable" "java/lang/Throwable" "fillInStackTrace" "(I)Ljava/lang/Throwable;") ∈ lw_tbl := List.mem_of_getElem? (i := 803) rfl
set_option maxRecDepth 100000 in
theorem ws_0 : Cond.selects "ExpenseClubs" ⟨"ExpenseClubs", "clubAt", "(I)LExpenseClubs$Club;"⟩ ⟨"ExpenseClubs", "clubAt", "(I)LExpenseClubs$Club;"⟩ ∈ lw_tbl := List.mem_of_getElem? (i := 0) rfl
set_option maxRecDepth 100000 in
theorem ws_1 : Cond.selects "ExpenseClubs" ⟨"ExpenseClubs", "refusalOfPost", "(LExpenseClubs$Club;)I"⟩ ⟨"ExpenseClubs", "refusalOfPost", "(LExpenseClubs$Club;)I"⟩ ∈ lw_tbl := List.mem_of_getElem? (i := 1) rfl
set_option maxRecDepth 100000 in
theorem ws_2 : Cond.selects "ExpenseClubs$Draft" ⟨"ExpenseClubs$Draft", "dueSum", "(J)J"⟩ ⟨"ExpenseClubs$Draft", "dueSum", "(J)J"⟩ ∈ lw_tbl := List.mem_of_getElem? (i := 2) rfl
set_option maxRecDepth 100000 in
theorem ws_3 : Cond.selects "ExpenseClubs" ⟨"ExpenseClubs", "billAt", "(I)LExpenseClubs$Bill;"⟩ ⟨"ExpenseClubs", "billAt", "(I)LExpenseClubs$Bill;"⟩ ∈ lw_tbl := List.mem_of_getElem? (i := 3) rfl
set_option maxRecDepth 100000 in
theorem ws_4 : Cond.selects "ExpenseClubs$Grouping" ⟨"ExpenseClubs$Grouping", "gather", "([J)V"⟩ ⟨"ExpenseClubs$Grouping", "gather", "([J)V"⟩ ∈ lw_tbl := List.mem_of_getElem? (i := 4) rfl
set_option maxRecDepth 100000 in
theorem ws_5 : Cond.selects "ExpenseClubs$Grouping" ⟨"ExpenseClubs$Grouping", "countMost", "()V"⟩ ⟨"ExpenseClubs$Grouping", "countMost", "()V"⟩ ∈ lw_tbl := List.mem_of_getElem? (i := 5) rfl
set_option maxRecDepth 100000 in
theorem ws_6 : Cond.selects "ExpenseClubs$Grouping" ⟨"ExpenseClubs$Grouping", "firstGroup", "(I)I"⟩ ⟨"ExpenseClubs$Grouping", "firstGroup", "(I)I"⟩ ∈ lw_tbl := List.mem_of_getElem? (i := 6) rfl
set_option maxRecDepth 100000 in
theorem ws_7 : Cond.selects "ExpenseClubs$Grouping" ⟨"ExpenseClubs$Grouping", "sumOfSet", "(I)J"⟩ ⟨"ExpenseClubs$Grouping", "sumOfSet", "(I)J"⟩ ∈ lw_tbl := List.mem_of_getElem? (i := 7) rfl
set_option maxRecDepth 100000 in
theorem ws_8 : Cond.selects "ExpenseClubs$Grouping" ⟨"ExpenseClubs$Grouping", "addGroup", "(LExpenseClubs$Settlement;I)V"⟩ ⟨"ExpenseClubs$Grouping", "addGroup", "(LExpenseClubs$Settlement;I)V"⟩ ∈ lw_tbl := List.mem_of_getElem? (i := 8) rfl
set_option maxRecDepth 100000 in
theorem ws_9 : Cond.selects "java/lang/Throwable" ⟨"java/lang/Throwable", "fillInStackTrace", "(I)Ljava/lang/Throwable;"⟩ ⟨"java/lang/Throwable", "fillInStackTrace", "(I)Ljava/lang/Throwable;"⟩ ∈ lw_tbl := List.mem_of_getElem? (i := 9) rfl
set_option maxRecDepth 100000 in
theorem ws_10 : Cond.selects "ExpenseClubsModel" ⟨"ExpenseClubsModel", "isClub", "(I)Z"⟩ ⟨"ExpenseClubsModel", "isClub", "(I)Z"⟩ ∈ lw_tbl := List.mem_of_getElem? (i := 10) rfl
set_option maxRecDepth 100000 in
theorem ws_11 : Cond.selects "ExpenseClubsModel" ⟨"ExpenseClubsModel", "isMember", "(II)Z"⟩ ⟨"ExpenseClubsModel", "isMember", "(II)Z"⟩ ∈ lw_tbl := List.mem_of_getElem? (i := 11) rfl
set_option maxRecDepth 100000 in
theorem ws_12 : Cond.selects "ExpenseClubsModel" ⟨"ExpenseClubsModel", "stays", "(I)Z"⟩ ⟨"ExpenseClubsModel", "stays", "(I)Z"⟩ ∈ lw_tbl := List.mem_of_getElem? (i := 12) rfl
set_option maxRecDepth 100000 in
theorem ws_13 : Cond.selects "ExpenseClubsModel" ⟨"ExpenseClubsModel", "wrong", "()I"⟩ ⟨"ExpenseClubsModel", "wrong", "()I"⟩ ∈ lw_tbl := List.mem_of_getElem? (i := 13) rfl
set_option maxRecDepth 100000 in
theorem ws_14 : Cond.selects "ExpenseClubsModel" ⟨"ExpenseClubsModel", "weighs", "()J"⟩ ⟨"ExpenseClubsModel", "weighs", "()J"⟩ ∈ lw_tbl := List.mem_of_getElem? (i := 14) rfl
set_option maxRecDepth 100000 in
theorem ws_15 : Cond.selects "ExpenseClubsModel" ⟨"ExpenseClubsModel", "fits", "(J)Z"⟩ ⟨"ExpenseClubsModel", "fits", "(J)Z"⟩ ∈ lw_tbl := List.mem_of_getElem? (i := 15) rfl
set_option maxRecDepth 100000 in
theorem ws_16 : Cond.selects "ExpenseClubsModel" ⟨"ExpenseClubsModel", "pay", "(IJ)V"⟩ ⟨"ExpenseClubsModel", "pay", "(IJ)V"⟩ ∈ lw_tbl := List.mem_of_getElem? (i := 16) rfl
set_option maxRecDepth 100000 in
theorem ws_17 : Cond.selects "ExpenseClubsModel" ⟨"ExpenseClubsModel", "share", "(IJJ)V"⟩ ⟨"ExpenseClubsModel", "share", "(IJJ)V"⟩ ∈ lw_tbl := List.mem_of_getElem? (i := 17) rfl
set_option maxRecDepth 100000 in
theorem ws_18 : Cond.selects "ExpenseClubsModel" ⟨"ExpenseClubsModel", "weighAll", "(I)V"⟩ ⟨"ExpenseClubsModel", "weighAll", "(I)V"⟩ ∈ lw_tbl := List.mem_of_getElem? (i := 18) rfl
set_option maxRecDepth 100000 in
theorem ws_19 : Cond.selects "ExpenseClubsModel" ⟨"ExpenseClubsModel", "divides", "()V"⟩ ⟨"ExpenseClubsModel", "divides", "()V"⟩ ∈ lw_tbl := List.mem_of_getElem? (i := 19) rfl
set_option maxRecDepth 100000 in
theorem ws_20 : Cond.selects "ExpenseClubsModel" ⟨"ExpenseClubsModel", "least", "(I)I"⟩ ⟨"ExpenseClubsModel", "least", "(I)I"⟩ ∈ lw_tbl := List.mem_of_getElem? (i := 20) rfl
set_option maxRecDepth 100000 in
theorem ws_21 : Cond.selects "ExpenseClubsModel" ⟨"ExpenseClubsModel", "moves", "(II)V"⟩ ⟨"ExpenseClubsModel", "moves", "(II)V"⟩ ∈ lw_tbl := List.mem_of_getElem? (i := 21) rfl
set_option maxRecDepth 100000 in
theorem ws_22 : Cond.selects "ExpenseClubsModel" ⟨"ExpenseClubsModel", "isTransfer", "(II)Z"⟩ ⟨"ExpenseClubsModel", "isTransfer", "(II)Z"⟩ ∈ lw_tbl := List.mem_of_getElem? (i := 22) rfl
set_option maxRecDepth 100000 in
theorem ws_23 : Cond.selects "ExpenseClubsModel" ⟨"ExpenseClubsModel", "unticked", "(I)I"⟩ ⟨"ExpenseClubsModel", "unticked", "(I)I"⟩ ∈ lw_tbl := List.mem_of_getElem? (i := 23) rfl
