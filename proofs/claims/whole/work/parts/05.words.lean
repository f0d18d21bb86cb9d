/-! the tables' words that are good anywhere, and each of them by its place -/
def TT : List Cond := lw_tbl.filter goodWord
theorem TT_in {w : Cond} (h : w ∈ lw_tbl) (hg : goodWord w = true) : w ∈ TT := List.mem_filter.mpr ⟨h, hg⟩
theorem TT_i {w : Cond} (i : Nat) (h : tables_1[i]? = some w) (hg : goodWord w = true) : w ∈ TT := TT_in (List.mem_append_right _ (List.mem_of_getElem? h)) hg
theorem TT_s {w : Cond} (i : Nat) (h : (k2_sels lw_privs)[i]? = some w) (hg : goodWord w = true) : w ∈ TT := TT_in (List.mem_append_left _ (List.mem_of_getElem? h)) hg
theorem TT_good : GoodIn TT TT := fun w h => ⟨h, good_of_word (List.mem_filter.mp h).2⟩
theorem TT_of {args : Array Value} {s : State} (h : ∀ w ∈ lw_tbl, w.before args s = true) : ∀ w ∈ TT, w.before args s = true := fun w hw => h w (List.mem_filter.mp hw).1
theorem tw_0 : (Jvm.Cond.initialized "TriedHarderLaw") ∈ TT := TT_i 0 rfl rfl
theorem tw_1 : (Jvm.Cond.initialized "TriedHarder") ∈ TT := TT_i 1 rfl rfl
theorem tw_2 : (Jvm.Cond.initialized "TriedHarder$Units") ∈ TT := TT_i 2 rfl rfl
theorem tw_3 : (Jvm.Cond.initialized "TriedHarder$Standing") ∈ TT := TT_i 3 rfl rfl
theorem tw_4 : (Jvm.Cond.initialized "TriedHarder$Trial") ∈ TT := TT_i 4 rfl rfl
theorem tw_5 : (Jvm.Cond.initialized "TriedHarderModel") ∈ TT := TT_i 5 rfl rfl
theorem tw_6 : (Jvm.Cond.initialized "java/lang/Math") ∈ TT := TT_i 6 rfl rfl
theorem tw_7 : (Jvm.Cond.classLink "TriedHarderLaw" (7 : Nat) "TriedHarder") ∈ TT := TT_i 7 rfl rfl
theorem tw_8 : (Jvm.Cond.instantiable "TriedHarder" (7 : Nat)) ∈ TT := TT_i 8 rfl rfl
theorem tw_9 : (Jvm.Cond.methodLink "TriedHarderLaw" (9 : Nat) ({ cls := "TriedHarder", name := "<init>", desc := "()V" } : Jvm.MethodName)) ∈ TT := TT_i 9 rfl rfl
theorem tw_10 : (Jvm.Cond.instanceMethod ({ cls := "TriedHarder", name := "<init>", desc := "()V" } : Jvm.MethodName)) ∈ TT := TT_i 10 rfl rfl
theorem tw_11 : (Jvm.Cond.code ({ cls := "TriedHarder", name := "<init>", desc := "()V" } : Jvm.MethodName) prog_1_method_1_code (1 : Nat) (Option.none : Option Jvm.ClassFile.FieldType)) ∈ TT := TT_i 11 rfl rfl
theorem tw_12 : (Jvm.Cond.methodLink "TriedHarder" (1 : Nat) ({ cls := "java/lang/Object", name := "<init>", desc := "()V" } : Jvm.MethodName)) ∈ TT := TT_i 12 rfl rfl
theorem tw_13 : (Jvm.Cond.instanceMethod ({ cls := "java/lang/Object", name := "<init>", desc := "()V" } : Jvm.MethodName)) ∈ TT := TT_i 13 rfl rfl
theorem tw_14 : (Jvm.Cond.code ({ cls := "java/lang/Object", name := "<init>", desc := "()V" } : Jvm.MethodName) object_method_1_code (1 : Nat) (Option.none : Option Jvm.ClassFile.FieldType)) ∈ TT := TT_i 14 rfl rfl
theorem tw_15 : (Jvm.Cond.classLink "TriedHarder" (7 : Nat) "TriedHarder$Units") ∈ TT := TT_i 15 rfl rfl
theorem tw_16 : (Jvm.Cond.instantiable "TriedHarder$Units" (4 : Nat)) ∈ TT := TT_i 16 rfl rfl
theorem tw_18 : (Jvm.Cond.instanceMethod ({ cls := "TriedHarder$Units", name := "<init>", desc := "()V" } : Jvm.MethodName)) ∈ TT := TT_i 18 rfl rfl
theorem tw_19 : (Jvm.Cond.code ({ cls := "TriedHarder$Units", name := "<init>", desc := "()V" } : Jvm.MethodName) prog_4_method_1_code (1 : Nat) (Option.none : Option Jvm.ClassFile.FieldType)) ∈ TT := TT_i 19 rfl rfl
theorem tw_20 : (Jvm.Cond.methodLink "TriedHarder$Units" (3 : Nat) ({ cls := "java/lang/Object", name := "<init>", desc := "()V" } : Jvm.MethodName)) ∈ TT := TT_i 20 rfl rfl
theorem tw_21 : (Jvm.Cond.fieldLink "TriedHarder$Units" (9 : Nat) "TriedHarder$Units" "stress" "[I") ∈ TT := TT_i 21 rfl rfl
theorem tw_22 : (Jvm.Cond.fieldLink "TriedHarder" (59 : Nat) "TriedHarder$Units" "stress" "[I") ∈ TT := TT_i 22 rfl rfl
theorem tw_23 : (Jvm.Cond.fieldLink "TriedHarder$Units" (15 : Nat) "TriedHarder$Units" "hour" "[I") ∈ TT := TT_i 23 rfl rfl
theorem tw_24 : (Jvm.Cond.fieldLink "TriedHarder" (62 : Nat) "TriedHarder$Units" "hour" "[I") ∈ TT := TT_i 24 rfl rfl
theorem tw_25 : (Jvm.Cond.fieldLink "TriedHarder$Units" (18 : Nat) "TriedHarder$Units" "cause" "[I") ∈ TT := TT_i 25 rfl rfl
theorem tw_26 : (Jvm.Cond.fieldLink "TriedHarder" (65 : Nat) "TriedHarder$Units" "cause" "[I") ∈ TT := TT_i 26 rfl rfl
theorem tw_27 : (Jvm.Cond.fieldLink "TriedHarder$Units" (21 : Nat) "TriedHarder$Units" "many" "I") ∈ TT := TT_i 27 rfl rfl
theorem tw_28 : (Jvm.Cond.fieldLink "TriedHarder" (48 : Nat) "TriedHarder$Units" "many" "I") ∈ TT := TT_i 28 rfl rfl
theorem tw_29 : (Jvm.Cond.laysFinal "TriedHarder$Units" "TriedHarder$Units" "stress" "[I") ∈ TT := TT_i 29 rfl rfl
theorem tw_31 : (Jvm.Cond.laysFinal "TriedHarder$Units" "TriedHarder$Units" "hour" "[I") ∈ TT := TT_i 31 rfl rfl
theorem tw_33 : (Jvm.Cond.laysFinal "TriedHarder$Units" "TriedHarder$Units" "cause" "[I") ∈ TT := TT_i 33 rfl rfl
theorem tw_35 : (Jvm.Cond.lays "TriedHarder$Units" "TriedHarder$Units" "many" "I") ∈ TT := TT_i 35 rfl rfl
theorem tw_38 : (Jvm.Cond.arrayClass Jvm.ClassFile.FieldType.int) ∈ TT := TT_i 38 rfl rfl
theorem tw_39 : (Jvm.Cond.classLink "TriedHarder" (16 : Nat) "TriedHarder$Standing") ∈ TT := TT_i 39 rfl rfl
theorem tw_40 : (Jvm.Cond.instantiable "TriedHarder$Standing" (3 : Nat)) ∈ TT := TT_i 40 rfl rfl
theorem tw_42 : (Jvm.Cond.instanceMethod ({ cls := "TriedHarder$Standing", name := "<init>", desc := "()V" } : Jvm.MethodName)) ∈ TT := TT_i 42 rfl rfl
theorem tw_43 : (Jvm.Cond.code ({ cls := "TriedHarder$Standing", name := "<init>", desc := "()V" } : Jvm.MethodName) prog_2_method_1_code (1 : Nat) (Option.none : Option Jvm.ClassFile.FieldType)) ∈ TT := TT_i 43 rfl rfl
theorem tw_44 : (Jvm.Cond.methodLink "TriedHarder$Standing" (3 : Nat) ({ cls := "java/lang/Object", name := "<init>", desc := "()V" } : Jvm.MethodName)) ∈ TT := TT_i 44 rfl rfl
theorem tw_45 : (Jvm.Cond.fieldLink "TriedHarder$Standing" (9 : Nat) "TriedHarder$Standing" "from" "[I") ∈ TT := TT_i 45 rfl rfl
theorem tw_46 : (Jvm.Cond.fieldLink "TriedHarder$Standing" (15 : Nat) "TriedHarder$Standing" "level" "[J") ∈ TT := TT_i 46 rfl rfl
theorem tw_47 : (Jvm.Cond.fieldLink "TriedHarder$Standing" (19 : Nat) "TriedHarder$Standing" "pieces" "I") ∈ TT := TT_i 47 rfl rfl
theorem tw_48 : (Jvm.Cond.laysFinal "TriedHarder$Standing" "TriedHarder$Standing" "from" "[I") ∈ TT := TT_i 48 rfl rfl
theorem tw_50 : (Jvm.Cond.laysFinal "TriedHarder$Standing" "TriedHarder$Standing" "level" "[J") ∈ TT := TT_i 50 rfl rfl
theorem tw_52 : (Jvm.Cond.lays "TriedHarder$Standing" "TriedHarder$Standing" "pieces" "I") ∈ TT := TT_i 52 rfl rfl
theorem tw_55 : (Jvm.Cond.arrayClass Jvm.ClassFile.FieldType.long) ∈ TT := TT_i 55 rfl rfl
theorem tw_56 : (Jvm.Cond.classLink "TriedHarder" (23 : Nat) "TriedHarder$Trial") ∈ TT := TT_i 56 rfl rfl
theorem tw_57 : (Jvm.Cond.instantiable "TriedHarder$Trial" (3 : Nat)) ∈ TT := TT_i 57 rfl rfl
theorem tw_59 : (Jvm.Cond.instanceMethod ({ cls := "TriedHarder$Trial", name := "<init>", desc := "()V" } : Jvm.MethodName)) ∈ TT := TT_i 59 rfl rfl
theorem tw_60 : (Jvm.Cond.code ({ cls := "TriedHarder$Trial", name := "<init>", desc := "()V" } : Jvm.MethodName) prog_3_method_1_code (1 : Nat) (Option.none : Option Jvm.ClassFile.FieldType)) ∈ TT := TT_i 60 rfl rfl
theorem tw_61 : (Jvm.Cond.methodLink "TriedHarder$Trial" (3 : Nat) ({ cls := "java/lang/Object", name := "<init>", desc := "()V" } : Jvm.MethodName)) ∈ TT := TT_i 61 rfl rfl
theorem tw_62 : (Jvm.Cond.fieldLink "TriedHarder$Trial" (9 : Nat) "TriedHarder$Trial" "stress" "[I") ∈ TT := TT_i 62 rfl rfl
theorem tw_63 : (Jvm.Cond.fieldLink "TriedHarder" (149 : Nat) "TriedHarder$Trial" "stress" "[I") ∈ TT := TT_i 63 rfl rfl
theorem tw_64 : (Jvm.Cond.fieldLink "TriedHarder$Trial" (15 : Nat) "TriedHarder$Trial" "hours" "[I") ∈ TT := TT_i 64 rfl rfl
theorem tw_65 : (Jvm.Cond.fieldLink "TriedHarder" (150 : Nat) "TriedHarder$Trial" "hours" "[I") ∈ TT := TT_i 65 rfl rfl
theorem tw_66 : (Jvm.Cond.fieldLink "TriedHarder$Trial" (18 : Nat) "TriedHarder$Trial" "many" "I") ∈ TT := TT_i 66 rfl rfl
theorem tw_67 : (Jvm.Cond.fieldLink "TriedHarder" (148 : Nat) "TriedHarder$Trial" "many" "I") ∈ TT := TT_i 67 rfl rfl
theorem tw_68 : (Jvm.Cond.laysFinal "TriedHarder$Trial" "TriedHarder$Trial" "stress" "[I") ∈ TT := TT_i 68 rfl rfl
theorem tw_70 : (Jvm.Cond.laysFinal "TriedHarder$Trial" "TriedHarder$Trial" "hours" "[I") ∈ TT := TT_i 70 rfl rfl
theorem tw_72 : (Jvm.Cond.lays "TriedHarder$Trial" "TriedHarder$Trial" "many" "I") ∈ TT := TT_i 72 rfl rfl
theorem tw_75 : (Jvm.Cond.fieldLink "TriedHarder" (10 : Nat) "TriedHarder" "units" "LTriedHarder$Units;") ∈ TT := TT_i 75 rfl rfl
theorem tw_76 : (Jvm.Cond.fieldLink "TriedHarder" (19 : Nat) "TriedHarder" "standing" "LTriedHarder$Standing;") ∈ TT := TT_i 76 rfl rfl
theorem tw_77 : (Jvm.Cond.fieldLink "TriedHarder" (26 : Nat) "TriedHarder" "trial" "LTriedHarder$Trial;") ∈ TT := TT_i 77 rfl rfl
theorem tw_78 : (Jvm.Cond.fieldLink "TriedHarder" (30 : Nat) "TriedHarder" "speeds" "[I") ∈ TT := TT_i 78 rfl rfl
theorem tw_79 : (Jvm.Cond.fieldLink "TriedHarder" (34 : Nat) "TriedHarder" "halves" "[I") ∈ TT := TT_i 79 rfl rfl
theorem tw_80 : (Jvm.Cond.fieldLink "TriedHarder" (37 : Nat) "TriedHarder" "price" "I") ∈ TT := TT_i 80 rfl rfl
theorem tw_81 : (Jvm.Cond.fieldLink "TriedHarder" (41 : Nat) "TriedHarder" "hourCost" "I") ∈ TT := TT_i 81 rfl rfl
theorem tw_82 : (Jvm.Cond.laysFinal "TriedHarder" "TriedHarder" "units" "LTriedHarder$Units;") ∈ TT := TT_i 82 rfl rfl
theorem tw_84 : (Jvm.Cond.laysFinal "TriedHarder" "TriedHarder" "standing" "LTriedHarder$Standing;") ∈ TT := TT_i 84 rfl rfl
theorem tw_86 : (Jvm.Cond.laysFinal "TriedHarder" "TriedHarder" "trial" "LTriedHarder$Trial;") ∈ TT := TT_i 86 rfl rfl
theorem tw_88 : (Jvm.Cond.laysFinal "TriedHarder" "TriedHarder" "speeds" "[I") ∈ TT := TT_i 88 rfl rfl
theorem tw_90 : (Jvm.Cond.laysFinal "TriedHarder" "TriedHarder" "halves" "[I") ∈ TT := TT_i 90 rfl rfl
theorem tw_92 : (Jvm.Cond.lays "TriedHarder" "TriedHarder" "price" "I") ∈ TT := TT_i 92 rfl rfl
theorem tw_94 : (Jvm.Cond.lays "TriedHarder" "TriedHarder" "hourCost" "I") ∈ TT := TT_i 94 rfl rfl
theorem tw_97 : (Jvm.Cond.methodLink "TriedHarderLaw" (13 : Nat) ({ cls := "TriedHarder", name := "unit", desc := "(III)I" } : Jvm.MethodName)) ∈ TT := TT_i 97 rfl rfl
theorem tw_98 : (Jvm.Cond.instanceMethod ({ cls := "TriedHarder", name := "unit", desc := "(III)I" } : Jvm.MethodName)) ∈ TT := TT_i 98 rfl rfl
theorem tw_99 : (Jvm.Cond.selects "TriedHarder" ({ cls := "TriedHarder", name := "unit", desc := "(III)I" } : Jvm.MethodName) ({ cls := "TriedHarder", name := "unit", desc := "(III)I" } : Jvm.MethodName)) ∈ TT := TT_i 99 rfl rfl
theorem tw_100 : (Jvm.Cond.code ({ cls := "TriedHarder", name := "unit", desc := "(III)I" } : Jvm.MethodName) prog_1_method_2_code (4 : Nat) (Option.some Jvm.ClassFile.FieldType.int)) ∈ TT := TT_i 100 rfl rfl
theorem tw_101 : (Jvm.Cond.methodLink "TriedHarder" (44 : Nat) ({ cls := "TriedHarder", name := "isUnit", desc := "(III)Z" } : Jvm.MethodName)) ∈ TT := TT_i 101 rfl rfl
theorem tw_102 : (Jvm.Cond.static ({ cls := "TriedHarder", name := "isUnit", desc := "(III)Z" } : Jvm.MethodName)) ∈ TT := TT_i 102 rfl rfl
theorem tw_103 : (Jvm.Cond.code ({ cls := "TriedHarder", name := "isUnit", desc := "(III)Z" } : Jvm.MethodName) prog_1_method_37_code (3 : Nat) (Option.some Jvm.ClassFile.FieldType.boolean)) ∈ TT := TT_i 103 rfl rfl
theorem tw_104 : (Jvm.Cond.methodLink "TriedHarder" (122 : Nat) ({ cls := "TriedHarder", name := "isStress", desc := "(I)Z" } : Jvm.MethodName)) ∈ TT := TT_i 104 rfl rfl
theorem tw_105 : (Jvm.Cond.static ({ cls := "TriedHarder", name := "isStress", desc := "(I)Z" } : Jvm.MethodName)) ∈ TT := TT_i 105 rfl rfl
theorem tw_106 : (Jvm.Cond.code ({ cls := "TriedHarder", name := "isStress", desc := "(I)Z" } : Jvm.MethodName) prog_1_method_36_code (1 : Nat) (Option.some Jvm.ClassFile.FieldType.boolean)) ∈ TT := TT_i 106 rfl rfl
theorem tw_107 : (Jvm.Cond.methodLink "TriedHarder" (75 : Nat) ({ cls := "TriedHarder", name := "isWithin", desc := "(III)Z" } : Jvm.MethodName)) ∈ TT := TT_i 107 rfl rfl
theorem tw_108 : (Jvm.Cond.static ({ cls := "TriedHarder", name := "isWithin", desc := "(III)Z" } : Jvm.MethodName)) ∈ TT := TT_i 108 rfl rfl
theorem tw_109 : (Jvm.Cond.code ({ cls := "TriedHarder", name := "isWithin", desc := "(III)Z" } : Jvm.MethodName) prog_1_method_35_code (3 : Nat) (Option.some Jvm.ClassFile.FieldType.boolean)) ∈ TT := TT_i 109 rfl rfl
theorem tw_110 : (Jvm.Cond.methodLink "TriedHarder" (51 : Nat) ({ cls := "TriedHarder$Units", name := "put", desc := "(IIII)V" } : Jvm.MethodName)) ∈ TT := TT_i 110 rfl rfl
theorem tw_111 : (Jvm.Cond.instanceMethod ({ cls := "TriedHarder$Units", name := "put", desc := "(IIII)V" } : Jvm.MethodName)) ∈ TT := TT_i 111 rfl rfl
theorem tw_112 : (Jvm.Cond.selects "TriedHarder$Units" ({ cls := "TriedHarder$Units", name := "put", desc := "(IIII)V" } : Jvm.MethodName) ({ cls := "TriedHarder$Units", name := "put", desc := "(IIII)V" } : Jvm.MethodName)) ∈ TT := TT_i 112 rfl rfl
theorem tw_113 : (Jvm.Cond.code ({ cls := "TriedHarder$Units", name := "put", desc := "(IIII)V" } : Jvm.MethodName) prog_4_method_3_code (5 : Nat) (Option.none : Option Jvm.ClassFile.FieldType)) ∈ TT := TT_i 113 rfl rfl
theorem tw_114 : (Jvm.Cond.methodLink "TriedHarder$Units" (29 : Nat) ({ cls := "TriedHarder$Units", name := "has", desc := "(I)Z" } : Jvm.MethodName)) ∈ TT := TT_i 114 rfl rfl
theorem tw_115 : (Jvm.Cond.instanceMethod ({ cls := "TriedHarder$Units", name := "has", desc := "(I)Z" } : Jvm.MethodName)) ∈ TT := TT_i 115 rfl rfl
theorem tw_116 : (Jvm.Cond.selects "TriedHarder$Units" ({ cls := "TriedHarder$Units", name := "has", desc := "(I)Z" } : Jvm.MethodName) ({ cls := "TriedHarder$Units", name := "has", desc := "(I)Z" } : Jvm.MethodName)) ∈ TT := TT_i 116 rfl rfl
theorem tw_117 : (Jvm.Cond.code ({ cls := "TriedHarder$Units", name := "has", desc := "(I)Z" } : Jvm.MethodName) prog_4_method_2_code (2 : Nat) (Option.some Jvm.ClassFile.FieldType.boolean)) ∈ TT := TT_i 117 rfl rfl
theorem tw_119 : (Jvm.Cond.methodLink "TriedHarderLaw" (18 : Nat) ({ cls := "TriedHarder", name := "set", desc := "(IIII)I" } : Jvm.MethodName)) ∈ TT := TT_i 119 rfl rfl
theorem tw_120 : (Jvm.Cond.instanceMethod ({ cls := "TriedHarder", name := "set", desc := "(IIII)I" } : Jvm.MethodName)) ∈ TT := TT_i 120 rfl rfl
theorem tw_121 : (Jvm.Cond.selects "TriedHarder" ({ cls := "TriedHarder", name := "set", desc := "(IIII)I" } : Jvm.MethodName) ({ cls := "TriedHarder", name := "set", desc := "(IIII)I" } : Jvm.MethodName)) ∈ TT := TT_i 121 rfl rfl
theorem tw_122 : (Jvm.Cond.code ({ cls := "TriedHarder", name := "set", desc := "(IIII)I" } : Jvm.MethodName) prog_1_method_3_code (5 : Nat) (Option.some Jvm.ClassFile.FieldType.int)) ∈ TT := TT_i 122 rfl rfl
theorem tw_123 : (Jvm.Cond.methodLink "TriedHarder" (55 : Nat) ({ cls := "TriedHarder$Units", name := "has", desc := "(I)Z" } : Jvm.MethodName)) ∈ TT := TT_i 123 rfl rfl
theorem tw_124 : (Jvm.Cond.methodLink "TriedHarderLaw" (23 : Nat) ({ cls := "TriedHarder", name := "drop", desc := "()I" } : Jvm.MethodName)) ∈ TT := TT_i 124 rfl rfl
theorem tw_125 : (Jvm.Cond.instanceMethod ({ cls := "TriedHarder", name := "drop", desc := "()I" } : Jvm.MethodName)) ∈ TT := TT_i 125 rfl rfl
theorem tw_126 : (Jvm.Cond.selects "TriedHarder" ({ cls := "TriedHarder", name := "drop", desc := "()I" } : Jvm.MethodName) ({ cls := "TriedHarder", name := "drop", desc := "()I" } : Jvm.MethodName)) ∈ TT := TT_i 126 rfl rfl
theorem tw_127 : (Jvm.Cond.code ({ cls := "TriedHarder", name := "drop", desc := "()I" } : Jvm.MethodName) prog_1_method_4_code (1 : Nat) (Option.some Jvm.ClassFile.FieldType.int)) ∈ TT := TT_i 127 rfl rfl
theorem tw_128 : (Jvm.Cond.methodLink "TriedHarderLaw" (28 : Nat) ({ cls := "TriedHarder", name := "told", desc := "(II)I" } : Jvm.MethodName)) ∈ TT := TT_i 128 rfl rfl
theorem tw_129 : (Jvm.Cond.instanceMethod ({ cls := "TriedHarder", name := "told", desc := "(II)I" } : Jvm.MethodName)) ∈ TT := TT_i 129 rfl rfl
theorem tw_130 : (Jvm.Cond.selects "TriedHarder" ({ cls := "TriedHarder", name := "told", desc := "(II)I" } : Jvm.MethodName) ({ cls := "TriedHarder", name := "told", desc := "(II)I" } : Jvm.MethodName)) ∈ TT := TT_i 130 rfl rfl
theorem tw_131 : (Jvm.Cond.code ({ cls := "TriedHarder", name := "told", desc := "(II)I" } : Jvm.MethodName) prog_1_method_5_code (3 : Nat) (Option.some Jvm.ClassFile.FieldType.int)) ∈ TT := TT_i 131 rfl rfl
theorem tw_132 : (Jvm.Cond.methodLink "TriedHarder" (68 : Nat) ({ cls := "TriedHarder", name := "useHour", desc := "(I)I" } : Jvm.MethodName)) ∈ TT := TT_i 132 rfl rfl
theorem tw_134 : (Jvm.Cond.instanceMethod ({ cls := "TriedHarder", name := "useHour", desc := "(I)I" } : Jvm.MethodName)) ∈ TT := TT_i 134 rfl rfl
theorem tw_135 : (Jvm.Cond.code ({ cls := "TriedHarder", name := "useHour", desc := "(I)I" } : Jvm.MethodName) prog_1_method_8_code (2 : Nat) (Option.some Jvm.ClassFile.FieldType.int)) ∈ TT := TT_i 135 rfl rfl
theorem tw_136 : (Jvm.Cond.methodLink "TriedHarderLaw" (33 : Nat) ({ cls := "TriedHarder", name := "count", desc := "(II)I" } : Jvm.MethodName)) ∈ TT := TT_i 136 rfl rfl
theorem tw_137 : (Jvm.Cond.instanceMethod ({ cls := "TriedHarder", name := "count", desc := "(II)I" } : Jvm.MethodName)) ∈ TT := TT_i 137 rfl rfl
theorem tw_138 : (Jvm.Cond.selects "TriedHarder" ({ cls := "TriedHarder", name := "count", desc := "(II)I" } : Jvm.MethodName) ({ cls := "TriedHarder", name := "count", desc := "(II)I" } : Jvm.MethodName)) ∈ TT := TT_i 138 rfl rfl
theorem tw_139 : (Jvm.Cond.code ({ cls := "TriedHarder", name := "count", desc := "(II)I" } : Jvm.MethodName) prog_1_method_6_code (5 : Nat) (Option.some Jvm.ClassFile.FieldType.int)) ∈ TT := TT_i 139 rfl rfl
theorem tw_140 : (Jvm.Cond.methodLink "TriedHarder" (72 : Nat) ({ cls := "TriedHarder", name := "isSet", desc := "(I)Z" } : Jvm.MethodName)) ∈ TT := TT_i 140 rfl rfl
theorem tw_141 : (Jvm.Cond.static ({ cls := "TriedHarder", name := "isSet", desc := "(I)Z" } : Jvm.MethodName)) ∈ TT := TT_i 141 rfl rfl
theorem tw_142 : (Jvm.Cond.code ({ cls := "TriedHarder", name := "isSet", desc := "(I)Z" } : Jvm.MethodName) prog_1_method_38_code (1 : Nat) (Option.some Jvm.ClassFile.FieldType.boolean)) ∈ TT := TT_i 142 rfl rfl
theorem tw_143 : (Jvm.Cond.methodLink "TriedHarder" (78 : Nat) ({ cls := "TriedHarder$Units", name := "isIn", desc := "(II)Z" } : Jvm.MethodName)) ∈ TT := TT_i 143 rfl rfl
theorem tw_144 : (Jvm.Cond.instanceMethod ({ cls := "TriedHarder$Units", name := "isIn", desc := "(II)Z" } : Jvm.MethodName)) ∈ TT := TT_i 144 rfl rfl
theorem tw_145 : (Jvm.Cond.selects "TriedHarder$Units" ({ cls := "TriedHarder$Units", name := "isIn", desc := "(II)Z" } : Jvm.MethodName) ({ cls := "TriedHarder$Units", name := "isIn", desc := "(II)Z" } : Jvm.MethodName)) ∈ TT := TT_i 145 rfl rfl
theorem tw_146 : (Jvm.Cond.code ({ cls := "TriedHarder$Units", name := "isIn", desc := "(II)Z" } : Jvm.MethodName) prog_4_method_4_code (3 : Nat) (Option.some Jvm.ClassFile.FieldType.boolean)) ∈ TT := TT_i 146 rfl rfl
theorem tw_147 : (Jvm.Cond.methodLink "TriedHarder" (82 : Nat) ({ cls := "TriedHarder", name := "shareInCount", desc := "(II)I" } : Jvm.MethodName)) ∈ TT := TT_i 147 rfl rfl
theorem tw_149 : (Jvm.Cond.instanceMethod ({ cls := "TriedHarder", name := "shareInCount", desc := "(II)I" } : Jvm.MethodName)) ∈ TT := TT_i 149 rfl rfl
theorem tw_150 : (Jvm.Cond.code ({ cls := "TriedHarder", name := "shareInCount", desc := "(II)I" } : Jvm.MethodName) prog_1_method_7_code (4 : Nat) (Option.some Jvm.ClassFile.FieldType.int)) ∈ TT := TT_i 150 rfl rfl
theorem tw_151 : (Jvm.Cond.methodLink "TriedHarderLaw" (37 : Nat) ({ cls := "TriedHarder", name := "risk", desc := "(II)I" } : Jvm.MethodName)) ∈ TT := TT_i 151 rfl rfl
theorem tw_152 : (Jvm.Cond.instanceMethod ({ cls := "TriedHarder", name := "risk", desc := "(II)I" } : Jvm.MethodName)) ∈ TT := TT_i 152 rfl rfl
theorem tw_153 : (Jvm.Cond.selects "TriedHarder" ({ cls := "TriedHarder", name := "risk", desc := "(II)I" } : Jvm.MethodName) ({ cls := "TriedHarder", name := "risk", desc := "(II)I" } : Jvm.MethodName)) ∈ TT := TT_i 153 rfl rfl
theorem tw_154 : (Jvm.Cond.code ({ cls := "TriedHarder", name := "risk", desc := "(II)I" } : Jvm.MethodName) prog_1_method_9_code (3 : Nat) (Option.some Jvm.ClassFile.FieldType.int)) ∈ TT := TT_i 154 rfl rfl
theorem tw_155 : (Jvm.Cond.methodLink "TriedHarder" (86 : Nat) ({ cls := "TriedHarder$Units", name := "atRisk", desc := "(II)I" } : Jvm.MethodName)) ∈ TT := TT_i 155 rfl rfl
theorem tw_156 : (Jvm.Cond.instanceMethod ({ cls := "TriedHarder$Units", name := "atRisk", desc := "(II)I" } : Jvm.MethodName)) ∈ TT := TT_i 156 rfl rfl
theorem tw_157 : (Jvm.Cond.selects "TriedHarder$Units" ({ cls := "TriedHarder$Units", name := "atRisk", desc := "(II)I" } : Jvm.MethodName) ({ cls := "TriedHarder$Units", name := "atRisk", desc := "(II)I" } : Jvm.MethodName)) ∈ TT := TT_i 157 rfl rfl
theorem tw_158 : (Jvm.Cond.code ({ cls := "TriedHarder$Units", name := "atRisk", desc := "(II)I" } : Jvm.MethodName) prog_4_method_5_code (5 : Nat) (Option.some Jvm.ClassFile.FieldType.int)) ∈ TT := TT_i 158 rfl rfl
theorem tw_159 : (Jvm.Cond.methodLink "TriedHarder$Units" (33 : Nat) ({ cls := "TriedHarder$Units", name := "isIn", desc := "(II)Z" } : Jvm.MethodName)) ∈ TT := TT_i 159 rfl rfl
theorem tw_160 : (Jvm.Cond.methodLink "TriedHarderLaw" (41 : Nat) ({ cls := "TriedHarder", name := "left", desc := "(IIII)J" } : Jvm.MethodName)) ∈ TT := TT_i 160 rfl rfl
theorem tw_161 : (Jvm.Cond.instanceMethod ({ cls := "TriedHarder", name := "left", desc := "(IIII)J" } : Jvm.MethodName)) ∈ TT := TT_i 161 rfl rfl
theorem tw_162 : (Jvm.Cond.selects "TriedHarder" ({ cls := "TriedHarder", name := "left", desc := "(IIII)J" } : Jvm.MethodName) ({ cls := "TriedHarder", name := "left", desc := "(IIII)J" } : Jvm.MethodName)) ∈ TT := TT_i 162 rfl rfl
theorem tw_163 : (Jvm.Cond.code ({ cls := "TriedHarder", name := "left", desc := "(IIII)J" } : Jvm.MethodName) prog_1_method_10_code (5 : Nat) (Option.some Jvm.ClassFile.FieldType.long)) ∈ TT := TT_i 163 rfl rfl
theorem tw_164 : (Jvm.Cond.methodLink "TriedHarder" (89 : Nat) ({ cls := "TriedHarder", name := "isSetByCause", desc := "(II)Z" } : Jvm.MethodName)) ∈ TT := TT_i 164 rfl rfl
theorem tw_165 : (Jvm.Cond.static ({ cls := "TriedHarder", name := "isSetByCause", desc := "(II)Z" } : Jvm.MethodName)) ∈ TT := TT_i 165 rfl rfl
theorem tw_166 : (Jvm.Cond.code ({ cls := "TriedHarder", name := "isSetByCause", desc := "(II)Z" } : Jvm.MethodName) prog_1_method_39_code (2 : Nat) (Option.some Jvm.ClassFile.FieldType.boolean)) ∈ TT := TT_i 166 rfl rfl
theorem tw_167 : (Jvm.Cond.constantLong "TriedHarder" (92 : Nat) (-1002 : Int64)) ∈ TT := TT_i 167 rfl rfl
theorem tw_168 : (Jvm.Cond.methodLink "TriedHarder" (94 : Nat) ({ cls := "TriedHarder$Standing", name := "look", desc := "(LTriedHarder$Units;II)V" } : Jvm.MethodName)) ∈ TT := TT_i 168 rfl rfl
theorem tw_169 : (Jvm.Cond.instanceMethod ({ cls := "TriedHarder$Standing", name := "look", desc := "(LTriedHarder$Units;II)V" } : Jvm.MethodName)) ∈ TT := TT_i 169 rfl rfl
theorem tw_170 : (Jvm.Cond.selects "TriedHarder$Standing" ({ cls := "TriedHarder$Standing", name := "look", desc := "(LTriedHarder$Units;II)V" } : Jvm.MethodName) ({ cls := "TriedHarder$Standing", name := "look", desc := "(LTriedHarder$Units;II)V" } : Jvm.MethodName)) ∈ TT := TT_i 170 rfl rfl
theorem tw_171 : (Jvm.Cond.code ({ cls := "TriedHarder$Standing", name := "look", desc := "(LTriedHarder$Units;II)V" } : Jvm.MethodName) prog_2_method_2_code (7 : Nat) (Option.none : Option Jvm.ClassFile.FieldType)) ∈ TT := TT_i 171 rfl rfl
theorem tw_172 : (Jvm.Cond.methodLink "TriedHarder$Standing" (23 : Nat) ({ cls := "TriedHarder$Units", name := "nextFailure", desc := "(III)I" } : Jvm.MethodName)) ∈ TT := TT_i 172 rfl rfl
theorem tw_173 : (Jvm.Cond.instanceMethod ({ cls := "TriedHarder$Units", name := "nextFailure", desc := "(III)I" } : Jvm.MethodName)) ∈ TT := TT_i 173 rfl rfl
theorem tw_174 : (Jvm.Cond.selects "TriedHarder$Units" ({ cls := "TriedHarder$Units", name := "nextFailure", desc := "(III)I" } : Jvm.MethodName) ({ cls := "TriedHarder$Units", name := "nextFailure", desc := "(III)I" } : Jvm.MethodName)) ∈ TT := TT_i 174 rfl rfl
theorem tw_175 : (Jvm.Cond.code ({ cls := "TriedHarder$Units", name := "nextFailure", desc := "(III)I" } : Jvm.MethodName) prog_4_method_8_code (6 : Nat) (Option.some Jvm.ClassFile.FieldType.int)) ∈ TT := TT_i 175 rfl rfl
theorem tw_176 : (Jvm.Cond.methodLink "TriedHarder$Units" (37 : Nat) ({ cls := "TriedHarder$Units", name := "hasFailed", desc := "(III)Z" } : Jvm.MethodName)) ∈ TT := TT_i 176 rfl rfl
theorem tw_177 : (Jvm.Cond.instanceMethod ({ cls := "TriedHarder$Units", name := "hasFailed", desc := "(III)Z" } : Jvm.MethodName)) ∈ TT := TT_i 177 rfl rfl
theorem tw_178 : (Jvm.Cond.selects "TriedHarder$Units" ({ cls := "TriedHarder$Units", name := "hasFailed", desc := "(III)Z" } : Jvm.MethodName) ({ cls := "TriedHarder$Units", name := "hasFailed", desc := "(III)Z" } : Jvm.MethodName)) ∈ TT := TT_i 178 rfl rfl
theorem tw_179 : (Jvm.Cond.code ({ cls := "TriedHarder$Units", name := "hasFailed", desc := "(III)Z" } : Jvm.MethodName) prog_4_method_6_code (4 : Nat) (Option.some Jvm.ClassFile.FieldType.boolean)) ∈ TT := TT_i 179 rfl rfl
theorem tw_180 : (Jvm.Cond.methodLink "TriedHarder$Standing" (29 : Nat) ({ cls := "TriedHarder$Units", name := "atRisk", desc := "(II)I" } : Jvm.MethodName)) ∈ TT := TT_i 180 rfl rfl
theorem tw_181 : (Jvm.Cond.methodLink "TriedHarder$Standing" (33 : Nat) ({ cls := "TriedHarder$Units", name := "failedAt", desc := "(III)I" } : Jvm.MethodName)) ∈ TT := TT_i 181 rfl rfl
theorem tw_182 : (Jvm.Cond.instanceMethod ({ cls := "TriedHarder$Units", name := "failedAt", desc := "(III)I" } : Jvm.MethodName)) ∈ TT := TT_i 182 rfl rfl
theorem tw_183 : (Jvm.Cond.selects "TriedHarder$Units" ({ cls := "TriedHarder$Units", name := "failedAt", desc := "(III)I" } : Jvm.MethodName) ({ cls := "TriedHarder$Units", name := "failedAt", desc := "(III)I" } : Jvm.MethodName)) ∈ TT := TT_i 183 rfl rfl
theorem tw_184 : (Jvm.Cond.code ({ cls := "TriedHarder$Units", name := "failedAt", desc := "(III)I" } : Jvm.MethodName) prog_4_method_7_code (6 : Nat) (Option.some Jvm.ClassFile.FieldType.int)) ∈ TT := TT_i 184 rfl rfl
theorem tw_185 : (Jvm.Cond.methodLink "TriedHarder$Standing" (36 : Nat) ({ cls := "TriedHarder$Standing", name := "raiseAllBefore", desc := "(II)V" } : Jvm.MethodName)) ∈ TT := TT_i 185 rfl rfl
theorem tw_186 : (Jvm.Cond.instanceMethod ({ cls := "TriedHarder$Standing", name := "raiseAllBefore", desc := "(II)V" } : Jvm.MethodName)) ∈ TT := TT_i 186 rfl rfl
theorem tw_187 : (Jvm.Cond.selects "TriedHarder$Standing" ({ cls := "TriedHarder$Standing", name := "raiseAllBefore", desc := "(II)V" } : Jvm.MethodName) ({ cls := "TriedHarder$Standing", name := "raiseAllBefore", desc := "(II)V" } : Jvm.MethodName)) ∈ TT := TT_i 187 rfl rfl
theorem tw_188 : (Jvm.Cond.code ({ cls := "TriedHarder$Standing", name := "raiseAllBefore", desc := "(II)V" } : Jvm.MethodName) prog_2_method_3_code (4 : Nat) (Option.none : Option Jvm.ClassFile.FieldType)) ∈ TT := TT_i 188 rfl rfl
theorem tw_189 : (Jvm.Cond.methodLink "TriedHarder" (98 : Nat) ({ cls := "TriedHarder$Standing", name := "levelAt", desc := "(I)J" } : Jvm.MethodName)) ∈ TT := TT_i 189 rfl rfl
theorem tw_190 : (Jvm.Cond.instanceMethod ({ cls := "TriedHarder$Standing", name := "levelAt", desc := "(I)J" } : Jvm.MethodName)) ∈ TT := TT_i 190 rfl rfl
theorem tw_191 : (Jvm.Cond.selects "TriedHarder$Standing" ({ cls := "TriedHarder$Standing", name := "levelAt", desc := "(I)J" } : Jvm.MethodName) ({ cls := "TriedHarder$Standing", name := "levelAt", desc := "(I)J" } : Jvm.MethodName)) ∈ TT := TT_i 191 rfl rfl
theorem tw_192 : (Jvm.Cond.code ({ cls := "TriedHarder$Standing", name := "levelAt", desc := "(I)J" } : Jvm.MethodName) prog_2_method_5_code (4 : Nat) (Option.some Jvm.ClassFile.FieldType.long)) ∈ TT := TT_i 192 rfl rfl
theorem tw_193 : (Jvm.Cond.methodLink "TriedHarder" (102 : Nat) ({ cls := "TriedHarder$Standing", name := "whole", desc := "()J" } : Jvm.MethodName)) ∈ TT := TT_i 193 rfl rfl
theorem tw_194 : (Jvm.Cond.instanceMethod ({ cls := "TriedHarder$Standing", name := "whole", desc := "()J" } : Jvm.MethodName)) ∈ TT := TT_i 194 rfl rfl
theorem tw_195 : (Jvm.Cond.selects "TriedHarder$Standing" ({ cls := "TriedHarder$Standing", name := "whole", desc := "()J" } : Jvm.MethodName) ({ cls := "TriedHarder$Standing", name := "whole", desc := "()J" } : Jvm.MethodName)) ∈ TT := TT_i 195 rfl rfl
theorem tw_196 : (Jvm.Cond.code ({ cls := "TriedHarder$Standing", name := "whole", desc := "()J" } : Jvm.MethodName) prog_2_method_4_code (1 : Nat) (Option.some Jvm.ClassFile.FieldType.long)) ∈ TT := TT_i 196 rfl rfl
theorem tw_197 : (Jvm.Cond.methodLink "TriedHarder" (106 : Nat) ({ cls := "TriedHarder", name := "leastTerms", desc := "(JJI)J" } : Jvm.MethodName)) ∈ TT := TT_i 197 rfl rfl
theorem tw_198 : (Jvm.Cond.static ({ cls := "TriedHarder", name := "leastTerms", desc := "(JJI)J" } : Jvm.MethodName)) ∈ TT := TT_i 198 rfl rfl
theorem tw_199 : (Jvm.Cond.code ({ cls := "TriedHarder", name := "leastTerms", desc := "(JJI)J" } : Jvm.MethodName) prog_1_method_43_code (9 : Nat) (Option.some Jvm.ClassFile.FieldType.long)) ∈ TT := TT_i 199 rfl rfl
theorem tw_200 : (Jvm.Cond.methodLink "TriedHarder" (184 : Nat) ({ cls := "TriedHarder", name := "sharedFactor", desc := "(JJ)J" } : Jvm.MethodName)) ∈ TT := TT_i 200 rfl rfl
theorem tw_201 : (Jvm.Cond.static ({ cls := "TriedHarder", name := "sharedFactor", desc := "(JJ)J" } : Jvm.MethodName)) ∈ TT := TT_i 201 rfl rfl
theorem tw_202 : (Jvm.Cond.code ({ cls := "TriedHarder", name := "sharedFactor", desc := "(JJ)J" } : Jvm.MethodName) prog_1_method_44_code (11 : Nat) (Option.some Jvm.ClassFile.FieldType.long)) ∈ TT := TT_i 202 rfl rfl
theorem tw_203 : (Jvm.Cond.methodLink "TriedHarderLaw" (46 : Nat) ({ cls := "TriedHarder", name := "time", desc := "(IIII)I" } : Jvm.MethodName)) ∈ TT := TT_i 203 rfl rfl
theorem tw_204 : (Jvm.Cond.instanceMethod ({ cls := "TriedHarder", name := "time", desc := "(IIII)I" } : Jvm.MethodName)) ∈ TT := TT_i 204 rfl rfl
theorem tw_205 : (Jvm.Cond.selects "TriedHarder" ({ cls := "TriedHarder", name := "time", desc := "(IIII)I" } : Jvm.MethodName) ({ cls := "TriedHarder", name := "time", desc := "(IIII)I" } : Jvm.MethodName)) ∈ TT := TT_i 205 rfl rfl
theorem tw_206 : (Jvm.Cond.code ({ cls := "TriedHarder", name := "time", desc := "(IIII)I" } : Jvm.MethodName) prog_1_method_11_code (5 : Nat) (Option.some Jvm.ClassFile.FieldType.int)) ∈ TT := TT_i 206 rfl rfl
theorem tw_207 : (Jvm.Cond.methodLink "TriedHarder" (110 : Nat) ({ cls := "TriedHarder$Standing", name := "firstAtMost", desc := "(II)I" } : Jvm.MethodName)) ∈ TT := TT_i 207 rfl rfl
theorem tw_208 : (Jvm.Cond.instanceMethod ({ cls := "TriedHarder$Standing", name := "firstAtMost", desc := "(II)I" } : Jvm.MethodName)) ∈ TT := TT_i 208 rfl rfl
theorem tw_209 : (Jvm.Cond.selects "TriedHarder$Standing" ({ cls := "TriedHarder$Standing", name := "firstAtMost", desc := "(II)I" } : Jvm.MethodName) ({ cls := "TriedHarder$Standing", name := "firstAtMost", desc := "(II)I" } : Jvm.MethodName)) ∈ TT := TT_i 209 rfl rfl
theorem tw_210 : (Jvm.Cond.code ({ cls := "TriedHarder$Standing", name := "firstAtMost", desc := "(II)I" } : Jvm.MethodName) prog_2_method_6_code (4 : Nat) (Option.some Jvm.ClassFile.FieldType.int)) ∈ TT := TT_i 210 rfl rfl
theorem tw_211 : (Jvm.Cond.methodLink "TriedHarder$Standing" (40 : Nat) ({ cls := "TriedHarder$Standing", name := "whole", desc := "()J" } : Jvm.MethodName)) ∈ TT := TT_i 211 rfl rfl
theorem tw_212 : (Jvm.Cond.methodLink "TriedHarderLaw" (50 : Nat) ({ cls := "TriedHarder", name := "mean", desc := "(IIII)J" } : Jvm.MethodName)) ∈ TT := TT_i 212 rfl rfl
theorem tw_213 : (Jvm.Cond.instanceMethod ({ cls := "TriedHarder", name := "mean", desc := "(IIII)J" } : Jvm.MethodName)) ∈ TT := TT_i 213 rfl rfl
theorem tw_214 : (Jvm.Cond.selects "TriedHarder" ({ cls := "TriedHarder", name := "mean", desc := "(IIII)J" } : Jvm.MethodName) ({ cls := "TriedHarder", name := "mean", desc := "(IIII)J" } : Jvm.MethodName)) ∈ TT := TT_i 214 rfl rfl
theorem tw_215 : (Jvm.Cond.code ({ cls := "TriedHarder", name := "mean", desc := "(IIII)J" } : Jvm.MethodName) prog_1_method_12_code (5 : Nat) (Option.some Jvm.ClassFile.FieldType.long)) ∈ TT := TT_i 215 rfl rfl
theorem tw_216 : (Jvm.Cond.methodLink "TriedHarder" (113 : Nat) ({ cls := "TriedHarder$Standing", name := "sumOf", desc := "(II)J" } : Jvm.MethodName)) ∈ TT := TT_i 216 rfl rfl
theorem tw_217 : (Jvm.Cond.instanceMethod ({ cls := "TriedHarder$Standing", name := "sumOf", desc := "(II)J" } : Jvm.MethodName)) ∈ TT := TT_i 217 rfl rfl
theorem tw_218 : (Jvm.Cond.selects "TriedHarder$Standing" ({ cls := "TriedHarder$Standing", name := "sumOf", desc := "(II)J" } : Jvm.MethodName) ({ cls := "TriedHarder$Standing", name := "sumOf", desc := "(II)J" } : Jvm.MethodName)) ∈ TT := TT_i 218 rfl rfl
theorem tw_219 : (Jvm.Cond.code ({ cls := "TriedHarder$Standing", name := "sumOf", desc := "(II)J" } : Jvm.MethodName) prog_2_method_7_code (8 : Nat) (Option.some Jvm.ClassFile.FieldType.long)) ∈ TT := TT_i 219 rfl rfl
theorem tw_220 : (Jvm.Cond.methodLink "TriedHarder$Standing" (44 : Nat) ({ cls := "java/lang/Math", name := "min", desc := "(II)I" } : Jvm.MethodName)) ∈ TT := TT_i 220 rfl rfl
theorem tw_221 : (Jvm.Cond.static ({ cls := "java/lang/Math", name := "min", desc := "(II)I" } : Jvm.MethodName)) ∈ TT := TT_i 221 rfl rfl
theorem tw_222 : (Jvm.Cond.code ({ cls := "java/lang/Math", name := "min", desc := "(II)I" } : Jvm.MethodName) prog_7_method_69_code (2 : Nat) (Option.some Jvm.ClassFile.FieldType.int)) ∈ TT := TT_i 222 rfl rfl
theorem tw_223 : (Jvm.Cond.methodLink "TriedHarder$Standing" (49 : Nat) ({ cls := "java/lang/Math", name := "max", desc := "(II)I" } : Jvm.MethodName)) ∈ TT := TT_i 223 rfl rfl
theorem tw_224 : (Jvm.Cond.static ({ cls := "java/lang/Math", name := "max", desc := "(II)I" } : Jvm.MethodName)) ∈ TT := TT_i 224 rfl rfl
theorem tw_225 : (Jvm.Cond.code ({ cls := "java/lang/Math", name := "max", desc := "(II)I" } : Jvm.MethodName) prog_7_method_65_code (2 : Nat) (Option.some Jvm.ClassFile.FieldType.int)) ∈ TT := TT_i 225 rfl rfl
theorem tw_226 : (Jvm.Cond.methodLink "TriedHarderLaw" (54 : Nat) ({ cls := "TriedHarder", name := "rest", desc := "(IIIII)J" } : Jvm.MethodName)) ∈ TT := TT_i 226 rfl rfl
theorem tw_227 : (Jvm.Cond.instanceMethod ({ cls := "TriedHarder", name := "rest", desc := "(IIIII)J" } : Jvm.MethodName)) ∈ TT := TT_i 227 rfl rfl
theorem tw_228 : (Jvm.Cond.selects "TriedHarder" ({ cls := "TriedHarder", name := "rest", desc := "(IIIII)J" } : Jvm.MethodName) ({ cls := "TriedHarder", name := "rest", desc := "(IIIII)J" } : Jvm.MethodName)) ∈ TT := TT_i 228 rfl rfl
theorem tw_229 : (Jvm.Cond.code ({ cls := "TriedHarder", name := "rest", desc := "(IIIII)J" } : Jvm.MethodName) prog_1_method_13_code (6 : Nat) (Option.some Jvm.ClassFile.FieldType.long)) ∈ TT := TT_i 229 rfl rfl
theorem tw_230 : (Jvm.Cond.constantLong "TriedHarder" (117 : Nat) (-1003 : Int64)) ∈ TT := TT_i 230 rfl rfl
theorem tw_231 : (Jvm.Cond.methodLink "TriedHarderLaw" (59 : Nat) ({ cls := "TriedHarder", name := "runIn", desc := "(IIII)I" } : Jvm.MethodName)) ∈ TT := TT_i 231 rfl rfl
theorem tw_232 : (Jvm.Cond.instanceMethod ({ cls := "TriedHarder", name := "runIn", desc := "(IIII)I" } : Jvm.MethodName)) ∈ TT := TT_i 232 rfl rfl
theorem tw_233 : (Jvm.Cond.selects "TriedHarder" ({ cls := "TriedHarder", name := "runIn", desc := "(IIII)I" } : Jvm.MethodName) ({ cls := "TriedHarder", name := "runIn", desc := "(IIII)I" } : Jvm.MethodName)) ∈ TT := TT_i 233 rfl rfl
theorem tw_234 : (Jvm.Cond.code ({ cls := "TriedHarder", name := "runIn", desc := "(IIII)I" } : Jvm.MethodName) prog_1_method_14_code (5 : Nat) (Option.some Jvm.ClassFile.FieldType.int)) ∈ TT := TT_i 234 rfl rfl
theorem tw_235 : (Jvm.Cond.methodLink "TriedHarder" (119 : Nat) ({ cls := "TriedHarder$Standing", name := "bestRunIn", desc := "(II)I" } : Jvm.MethodName)) ∈ TT := TT_i 235 rfl rfl
theorem tw_236 : (Jvm.Cond.instanceMethod ({ cls := "TriedHarder$Standing", name := "bestRunIn", desc := "(II)I" } : Jvm.MethodName)) ∈ TT := TT_i 236 rfl rfl
theorem tw_237 : (Jvm.Cond.selects "TriedHarder$Standing" ({ cls := "TriedHarder$Standing", name := "bestRunIn", desc := "(II)I" } : Jvm.MethodName) ({ cls := "TriedHarder$Standing", name := "bestRunIn", desc := "(II)I" } : Jvm.MethodName)) ∈ TT := TT_i 237 rfl rfl
theorem tw_238 : (Jvm.Cond.code ({ cls := "TriedHarder$Standing", name := "bestRunIn", desc := "(II)I" } : Jvm.MethodName) prog_2_method_8_code (15 : Nat) (Option.some Jvm.ClassFile.FieldType.int)) ∈ TT := TT_i 238 rfl rfl
theorem tw_239 : (Jvm.Cond.methodLink "TriedHarder$Standing" (52 : Nat) ({ cls := "TriedHarder$Standing", name := "sumOf", desc := "(II)J" } : Jvm.MethodName)) ∈ TT := TT_i 239 rfl rfl
theorem tw_241 : (Jvm.Cond.constantLong "TriedHarder$Standing" (60 : Nat) (100 : Int64)) ∈ TT := TT_i 241 rfl rfl
theorem tw_242 : (Jvm.Cond.methodLink "TriedHarderLaw" (63 : Nat) ({ cls := "TriedHarder", name := "speed", desc := "(II)I" } : Jvm.MethodName)) ∈ TT := TT_i 242 rfl rfl
theorem tw_243 : (Jvm.Cond.instanceMethod ({ cls := "TriedHarder", name := "speed", desc := "(II)I" } : Jvm.MethodName)) ∈ TT := TT_i 243 rfl rfl
theorem tw_244 : (Jvm.Cond.selects "TriedHarder" ({ cls := "TriedHarder", name := "speed", desc := "(II)I" } : Jvm.MethodName) ({ cls := "TriedHarder", name := "speed", desc := "(II)I" } : Jvm.MethodName)) ∈ TT := TT_i 244 rfl rfl
theorem tw_245 : (Jvm.Cond.code ({ cls := "TriedHarder", name := "speed", desc := "(II)I" } : Jvm.MethodName) prog_1_method_15_code (4 : Nat) (Option.some Jvm.ClassFile.FieldType.int)) ∈ TT := TT_i 245 rfl rfl
theorem tw_246 : (Jvm.Cond.methodLink "TriedHarderLaw" (67 : Nat) ({ cls := "TriedHarder", name := "says", desc := "(III)I" } : Jvm.MethodName)) ∈ TT := TT_i 246 rfl rfl
theorem tw_247 : (Jvm.Cond.instanceMethod ({ cls := "TriedHarder", name := "says", desc := "(III)I" } : Jvm.MethodName)) ∈ TT := TT_i 247 rfl rfl
theorem tw_248 : (Jvm.Cond.selects "TriedHarder" ({ cls := "TriedHarder", name := "says", desc := "(III)I" } : Jvm.MethodName) ({ cls := "TriedHarder", name := "says", desc := "(III)I" } : Jvm.MethodName)) ∈ TT := TT_i 248 rfl rfl
theorem tw_249 : (Jvm.Cond.code ({ cls := "TriedHarder", name := "says", desc := "(III)I" } : Jvm.MethodName) prog_1_method_16_code (4 : Nat) (Option.some Jvm.ClassFile.FieldType.int)) ∈ TT := TT_i 249 rfl rfl
theorem tw_250 : (Jvm.Cond.methodLink "TriedHarder" (125 : Nat) ({ cls := "TriedHarder", name := "isLaw", desc := "(II)Z" } : Jvm.MethodName)) ∈ TT := TT_i 250 rfl rfl
theorem tw_251 : (Jvm.Cond.static ({ cls := "TriedHarder", name := "isLaw", desc := "(II)Z" } : Jvm.MethodName)) ∈ TT := TT_i 251 rfl rfl
theorem tw_252 : (Jvm.Cond.code ({ cls := "TriedHarder", name := "isLaw", desc := "(II)Z" } : Jvm.MethodName) prog_1_method_40_code (2 : Nat) (Option.some Jvm.ClassFile.FieldType.boolean)) ∈ TT := TT_i 252 rfl rfl
theorem tw_253 : (Jvm.Cond.constant "TriedHarder" (139 : Nat) (100000 : Int32)) ∈ TT := TT_i 253 rfl rfl
theorem tw_254 : (Jvm.Cond.methodLink "TriedHarder" (128 : Nat) ({ cls := "TriedHarder", name := "lawAt", desc := "(III)I" } : Jvm.MethodName)) ∈ TT := TT_i 254 rfl rfl
theorem tw_255 : (Jvm.Cond.static ({ cls := "TriedHarder", name := "lawAt", desc := "(III)I" } : Jvm.MethodName)) ∈ TT := TT_i 255 rfl rfl
theorem tw_256 : (Jvm.Cond.code ({ cls := "TriedHarder", name := "lawAt", desc := "(III)I" } : Jvm.MethodName) prog_1_method_21_code (5 : Nat) (Option.some Jvm.ClassFile.FieldType.int)) ∈ TT := TT_i 256 rfl rfl
theorem tw_257 : (Jvm.Cond.methodLink "TriedHarder" (145 : Nat) ({ cls := "TriedHarder", name := "cut", desc := "(II)I" } : Jvm.MethodName)) ∈ TT := TT_i 257 rfl rfl
theorem tw_258 : (Jvm.Cond.static ({ cls := "TriedHarder", name := "cut", desc := "(II)I" } : Jvm.MethodName)) ∈ TT := TT_i 258 rfl rfl
theorem tw_259 : (Jvm.Cond.code ({ cls := "TriedHarder", name := "cut", desc := "(II)I" } : Jvm.MethodName) prog_1_method_41_code (2 : Nat) (Option.some Jvm.ClassFile.FieldType.int)) ∈ TT := TT_i 259 rfl rfl
theorem tw_260 : (Jvm.Cond.methodLink "TriedHarderLaw" (71 : Nat) ({ cls := "TriedHarder", name := "miss", desc := "(II)I" } : Jvm.MethodName)) ∈ TT := TT_i 260 rfl rfl
theorem tw_261 : (Jvm.Cond.instanceMethod ({ cls := "TriedHarder", name := "miss", desc := "(II)I" } : Jvm.MethodName)) ∈ TT := TT_i 261 rfl rfl
theorem tw_262 : (Jvm.Cond.selects "TriedHarder" ({ cls := "TriedHarder", name := "miss", desc := "(II)I" } : Jvm.MethodName) ({ cls := "TriedHarder", name := "miss", desc := "(II)I" } : Jvm.MethodName)) ∈ TT := TT_i 262 rfl rfl
theorem tw_263 : (Jvm.Cond.code ({ cls := "TriedHarder", name := "miss", desc := "(II)I" } : Jvm.MethodName) prog_1_method_17_code (3 : Nat) (Option.some Jvm.ClassFile.FieldType.int)) ∈ TT := TT_i 263 rfl rfl
theorem tw_264 : (Jvm.Cond.methodLink "TriedHarder" (132 : Nat) ({ cls := "TriedHarder", name := "findHalves", desc := "()Z" } : Jvm.MethodName)) ∈ TT := TT_i 264 rfl rfl
theorem tw_266 : (Jvm.Cond.instanceMethod ({ cls := "TriedHarder", name := "findHalves", desc := "()Z" } : Jvm.MethodName)) ∈ TT := TT_i 266 rfl rfl
theorem tw_267 : (Jvm.Cond.code ({ cls := "TriedHarder", name := "findHalves", desc := "()Z" } : Jvm.MethodName) prog_1_method_19_code (3 : Nat) (Option.some Jvm.ClassFile.FieldType.boolean)) ∈ TT := TT_i 267 rfl rfl
theorem tw_268 : (Jvm.Cond.methodLink "TriedHarder" (136 : Nat) ({ cls := "TriedHarder", name := "missOfHalves", desc := "(II)I" } : Jvm.MethodName)) ∈ TT := TT_i 268 rfl rfl
theorem tw_270 : (Jvm.Cond.instanceMethod ({ cls := "TriedHarder", name := "missOfHalves", desc := "(II)I" } : Jvm.MethodName)) ∈ TT := TT_i 270 rfl rfl
theorem tw_271 : (Jvm.Cond.code ({ cls := "TriedHarder", name := "missOfHalves", desc := "(II)I" } : Jvm.MethodName) prog_1_method_20_code (5 : Nat) (Option.some Jvm.ClassFile.FieldType.int)) ∈ TT := TT_i 271 rfl rfl
theorem tw_272 : (Jvm.Cond.methodLink "TriedHarder" (140 : Nat) ({ cls := "java/lang/Math", name := "abs", desc := "(I)I" } : Jvm.MethodName)) ∈ TT := TT_i 272 rfl rfl
theorem tw_273 : (Jvm.Cond.static ({ cls := "java/lang/Math", name := "abs", desc := "(I)I" } : Jvm.MethodName)) ∈ TT := TT_i 273 rfl rfl
theorem tw_274 : (Jvm.Cond.code ({ cls := "java/lang/Math", name := "abs", desc := "(I)I" } : Jvm.MethodName) prog_7_method_59_code (1 : Nat) (Option.some Jvm.ClassFile.FieldType.int)) ∈ TT := TT_i 274 rfl rfl
theorem tw_275 : (Jvm.Cond.methodLink "TriedHarderLaw" (75 : Nat) ({ cls := "TriedHarder", name := "law", desc := "(III)I" } : Jvm.MethodName)) ∈ TT := TT_i 275 rfl rfl
theorem tw_276 : (Jvm.Cond.instanceMethod ({ cls := "TriedHarder", name := "law", desc := "(III)I" } : Jvm.MethodName)) ∈ TT := TT_i 276 rfl rfl
theorem tw_277 : (Jvm.Cond.selects "TriedHarder" ({ cls := "TriedHarder", name := "law", desc := "(III)I" } : Jvm.MethodName) ({ cls := "TriedHarder", name := "law", desc := "(III)I" } : Jvm.MethodName)) ∈ TT := TT_i 277 rfl rfl
theorem tw_278 : (Jvm.Cond.code ({ cls := "TriedHarder", name := "law", desc := "(III)I" } : Jvm.MethodName) prog_1_method_18_code (10 : Nat) (Option.some Jvm.ClassFile.FieldType.int)) ∈ TT := TT_i 278 rfl rfl
theorem tw_279 : (Jvm.Cond.methodLink "TriedHarderLaw" (79 : Nat) ({ cls := "TriedHarder", name := "step", desc := "(II)I" } : Jvm.MethodName)) ∈ TT := TT_i 279 rfl rfl
theorem tw_280 : (Jvm.Cond.instanceMethod ({ cls := "TriedHarder", name := "step", desc := "(II)I" } : Jvm.MethodName)) ∈ TT := TT_i 280 rfl rfl
theorem tw_281 : (Jvm.Cond.selects "TriedHarder" ({ cls := "TriedHarder", name := "step", desc := "(II)I" } : Jvm.MethodName) ({ cls := "TriedHarder", name := "step", desc := "(II)I" } : Jvm.MethodName)) ∈ TT := TT_i 281 rfl rfl
theorem tw_282 : (Jvm.Cond.code ({ cls := "TriedHarder", name := "step", desc := "(II)I" } : Jvm.MethodName) prog_1_method_22_code (3 : Nat) (Option.some Jvm.ClassFile.FieldType.int)) ∈ TT := TT_i 282 rfl rfl
theorem tw_283 : (Jvm.Cond.methodLink "TriedHarderLaw" (83 : Nat) ({ cls := "TriedHarder", name := "clear", desc := "()I" } : Jvm.MethodName)) ∈ TT := TT_i 283 rfl rfl
theorem tw_284 : (Jvm.Cond.instanceMethod ({ cls := "TriedHarder", name := "clear", desc := "()I" } : Jvm.MethodName)) ∈ TT := TT_i 284 rfl rfl
theorem tw_285 : (Jvm.Cond.selects "TriedHarder" ({ cls := "TriedHarder", name := "clear", desc := "()I" } : Jvm.MethodName) ({ cls := "TriedHarder", name := "clear", desc := "()I" } : Jvm.MethodName)) ∈ TT := TT_i 285 rfl rfl
theorem tw_286 : (Jvm.Cond.code ({ cls := "TriedHarder", name := "clear", desc := "()I" } : Jvm.MethodName) prog_1_method_23_code (2 : Nat) (Option.some Jvm.ClassFile.FieldType.int)) ∈ TT := TT_i 286 rfl rfl
theorem tw_287 : (Jvm.Cond.methodLink "TriedHarderLaw" (87 : Nat) ({ cls := "TriedHarder", name := "used", desc := "(I)I" } : Jvm.MethodName)) ∈ TT := TT_i 287 rfl rfl
theorem tw_288 : (Jvm.Cond.instanceMethod ({ cls := "TriedHarder", name := "used", desc := "(I)I" } : Jvm.MethodName)) ∈ TT := TT_i 288 rfl rfl
theorem tw_289 : (Jvm.Cond.selects "TriedHarder" ({ cls := "TriedHarder", name := "used", desc := "(I)I" } : Jvm.MethodName) ({ cls := "TriedHarder", name := "used", desc := "(I)I" } : Jvm.MethodName)) ∈ TT := TT_i 289 rfl rfl
theorem tw_290 : (Jvm.Cond.code ({ cls := "TriedHarder", name := "used", desc := "(I)I" } : Jvm.MethodName) prog_1_method_24_code (4 : Nat) (Option.some Jvm.ClassFile.FieldType.int)) ∈ TT := TT_i 290 rfl rfl
theorem tw_291 : (Jvm.Cond.methodLink "TriedHarderLaw" (92 : Nat) ({ cls := "TriedHarder", name := "fails", desc := "(I)I" } : Jvm.MethodName)) ∈ TT := TT_i 291 rfl rfl
theorem tw_292 : (Jvm.Cond.instanceMethod ({ cls := "TriedHarder", name := "fails", desc := "(I)I" } : Jvm.MethodName)) ∈ TT := TT_i 292 rfl rfl
theorem tw_293 : (Jvm.Cond.selects "TriedHarder" ({ cls := "TriedHarder", name := "fails", desc := "(I)I" } : Jvm.MethodName) ({ cls := "TriedHarder", name := "fails", desc := "(I)I" } : Jvm.MethodName)) ∈ TT := TT_i 293 rfl rfl
theorem tw_294 : (Jvm.Cond.code ({ cls := "TriedHarder", name := "fails", desc := "(I)I" } : Jvm.MethodName) prog_1_method_25_code (6 : Nat) (Option.some Jvm.ClassFile.FieldType.int)) ∈ TT := TT_i 294 rfl rfl
theorem tw_295 : (Jvm.Cond.methodLink "TriedHarder" (153 : Nat) ({ cls := "TriedHarder", name := "roundedUp", desc := "(II)I" } : Jvm.MethodName)) ∈ TT := TT_i 295 rfl rfl
theorem tw_296 : (Jvm.Cond.static ({ cls := "TriedHarder", name := "roundedUp", desc := "(II)I" } : Jvm.MethodName)) ∈ TT := TT_i 296 rfl rfl
theorem tw_297 : (Jvm.Cond.code ({ cls := "TriedHarder", name := "roundedUp", desc := "(II)I" } : Jvm.MethodName) prog_1_method_42_code (2 : Nat) (Option.some Jvm.ClassFile.FieldType.int)) ∈ TT := TT_i 297 rfl rfl
theorem tw_298 : (Jvm.Cond.methodLink "TriedHarderLaw" (96 : Nat) ({ cls := "TriedHarder", name := "end", desc := "(IIII)I" } : Jvm.MethodName)) ∈ TT := TT_i 298 rfl rfl
theorem tw_299 : (Jvm.Cond.instanceMethod ({ cls := "TriedHarder", name := "end", desc := "(IIII)I" } : Jvm.MethodName)) ∈ TT := TT_i 299 rfl rfl
theorem tw_300 : (Jvm.Cond.selects "TriedHarder" ({ cls := "TriedHarder", name := "end", desc := "(IIII)I" } : Jvm.MethodName) ({ cls := "TriedHarder", name := "end", desc := "(IIII)I" } : Jvm.MethodName)) ∈ TT := TT_i 300 rfl rfl
theorem tw_301 : (Jvm.Cond.code ({ cls := "TriedHarder", name := "end", desc := "(IIII)I" } : Jvm.MethodName) prog_1_method_26_code (5 : Nat) (Option.some Jvm.ClassFile.FieldType.int)) ∈ TT := TT_i 301 rfl rfl
theorem tw_302 : (Jvm.Cond.methodLink "TriedHarder" (156 : Nat) ({ cls := "TriedHarder", name := "lowEnd", desc := "(III)I" } : Jvm.MethodName)) ∈ TT := TT_i 302 rfl rfl
theorem tw_303 : (Jvm.Cond.static ({ cls := "TriedHarder", name := "lowEnd", desc := "(III)I" } : Jvm.MethodName)) ∈ TT := TT_i 303 rfl rfl
theorem tw_304 : (Jvm.Cond.code ({ cls := "TriedHarder", name := "lowEnd", desc := "(III)I" } : Jvm.MethodName) prog_1_method_27_code (4 : Nat) (Option.some Jvm.ClassFile.FieldType.int)) ∈ TT := TT_i 304 rfl rfl
theorem tw_305 : (Jvm.Cond.methodLink "TriedHarder" (162 : Nat) ({ cls := "TriedHarder", name := "casesOf", desc := "(IIII)J" } : Jvm.MethodName)) ∈ TT := TT_i 305 rfl rfl
theorem tw_306 : (Jvm.Cond.static ({ cls := "TriedHarder", name := "casesOf", desc := "(IIII)J" } : Jvm.MethodName)) ∈ TT := TT_i 306 rfl rfl
theorem tw_307 : (Jvm.Cond.code ({ cls := "TriedHarder", name := "casesOf", desc := "(IIII)J" } : Jvm.MethodName) prog_1_method_30_code (7 : Nat) (Option.some Jvm.ClassFile.FieldType.long)) ∈ TT := TT_i 307 rfl rfl
theorem tw_308 : (Jvm.Cond.methodLink "TriedHarder" (175 : Nat) ({ cls := "TriedHarder", name := "ways", desc := "(II)J" } : Jvm.MethodName)) ∈ TT := TT_i 308 rfl rfl
theorem tw_309 : (Jvm.Cond.static ({ cls := "TriedHarder", name := "ways", desc := "(II)J" } : Jvm.MethodName)) ∈ TT := TT_i 309 rfl rfl
theorem tw_310 : (Jvm.Cond.code ({ cls := "TriedHarder", name := "ways", desc := "(II)J" } : Jvm.MethodName) prog_1_method_31_code (5 : Nat) (Option.some Jvm.ClassFile.FieldType.long)) ∈ TT := TT_i 310 rfl rfl
theorem tw_311 : (Jvm.Cond.methodLink "TriedHarder" (172 : Nat) ({ cls := "TriedHarder", name := "power", desc := "(II)J" } : Jvm.MethodName)) ∈ TT := TT_i 311 rfl rfl
theorem tw_312 : (Jvm.Cond.static ({ cls := "TriedHarder", name := "power", desc := "(II)J" } : Jvm.MethodName)) ∈ TT := TT_i 312 rfl rfl
theorem tw_313 : (Jvm.Cond.code ({ cls := "TriedHarder", name := "power", desc := "(II)J" } : Jvm.MethodName) prog_1_method_32_code (5 : Nat) (Option.some Jvm.ClassFile.FieldType.long)) ∈ TT := TT_i 313 rfl rfl
theorem tw_314 : (Jvm.Cond.methodLink "TriedHarder" (166 : Nat) ({ cls := "TriedHarder", name := "isAtMost", desc := "(IIJ)Z" } : Jvm.MethodName)) ∈ TT := TT_i 314 rfl rfl
theorem tw_315 : (Jvm.Cond.static ({ cls := "TriedHarder", name := "isAtMost", desc := "(IIJ)Z" } : Jvm.MethodName)) ∈ TT := TT_i 315 rfl rfl
theorem tw_316 : (Jvm.Cond.code ({ cls := "TriedHarder", name := "isAtMost", desc := "(IIJ)Z" } : Jvm.MethodName) prog_1_method_29_code (4 : Nat) (Option.some Jvm.ClassFile.FieldType.boolean)) ∈ TT := TT_i 316 rfl rfl
theorem tw_317 : (Jvm.Cond.constantLong "TriedHarder" (170 : Nat) (100 : Int64)) ∈ TT := TT_i 317 rfl rfl
theorem tw_318 : (Jvm.Cond.methodLink "TriedHarder" (159 : Nat) ({ cls := "TriedHarder", name := "highEnd", desc := "(III)I" } : Jvm.MethodName)) ∈ TT := TT_i 318 rfl rfl
theorem tw_319 : (Jvm.Cond.static ({ cls := "TriedHarder", name := "highEnd", desc := "(III)I" } : Jvm.MethodName)) ∈ TT := TT_i 319 rfl rfl
theorem tw_320 : (Jvm.Cond.code ({ cls := "TriedHarder", name := "highEnd", desc := "(III)I" } : Jvm.MethodName) prog_1_method_28_code (4 : Nat) (Option.some Jvm.ClassFile.FieldType.int)) ∈ TT := TT_i 320 rfl rfl
theorem tw_321 : (Jvm.Cond.methodLink "TriedHarderLaw" (100 : Nat) ({ cls := "TriedHarder", name := "rule", desc := "(II)I" } : Jvm.MethodName)) ∈ TT := TT_i 321 rfl rfl
theorem tw_322 : (Jvm.Cond.instanceMethod ({ cls := "TriedHarder", name := "rule", desc := "(II)I" } : Jvm.MethodName)) ∈ TT := TT_i 322 rfl rfl
theorem tw_323 : (Jvm.Cond.selects "TriedHarder" ({ cls := "TriedHarder", name := "rule", desc := "(II)I" } : Jvm.MethodName) ({ cls := "TriedHarder", name := "rule", desc := "(II)I" } : Jvm.MethodName)) ∈ TT := TT_i 323 rfl rfl
theorem tw_324 : (Jvm.Cond.code ({ cls := "TriedHarder", name := "rule", desc := "(II)I" } : Jvm.MethodName) prog_1_method_33_code (4 : Nat) (Option.some Jvm.ClassFile.FieldType.int)) ∈ TT := TT_i 324 rfl rfl
theorem tw_325 : (Jvm.Cond.methodLink "TriedHarderLaw" (104 : Nat) ({ cls := "TriedHarder", name := "plan", desc := "(III)I" } : Jvm.MethodName)) ∈ TT := TT_i 325 rfl rfl
theorem tw_326 : (Jvm.Cond.instanceMethod ({ cls := "TriedHarder", name := "plan", desc := "(III)I" } : Jvm.MethodName)) ∈ TT := TT_i 326 rfl rfl
theorem tw_327 : (Jvm.Cond.selects "TriedHarder" ({ cls := "TriedHarder", name := "plan", desc := "(III)I" } : Jvm.MethodName) ({ cls := "TriedHarder", name := "plan", desc := "(III)I" } : Jvm.MethodName)) ∈ TT := TT_i 327 rfl rfl
theorem tw_328 : (Jvm.Cond.code ({ cls := "TriedHarder", name := "plan", desc := "(III)I" } : Jvm.MethodName) prog_1_method_34_code (9 : Nat) (Option.some Jvm.ClassFile.FieldType.int)) ∈ TT := TT_i 328 rfl rfl
theorem tw_329 : (Jvm.Cond.methodLink "TriedHarder" (178 : Nat) ({ cls := "java/lang/Math", name := "min", desc := "(II)I" } : Jvm.MethodName)) ∈ TT := TT_i 329 rfl rfl
theorem tw_330 : (Jvm.Cond.methodLink "TriedHarder" (181 : Nat) ({ cls := "java/lang/Math", name := "max", desc := "(II)I" } : Jvm.MethodName)) ∈ TT := TT_i 330 rfl rfl
theorem tw_331 : (Jvm.Cond.classLink "TriedHarderLaw" (10 : Nat) "TriedHarderModel") ∈ TT := TT_i 331 rfl rfl
theorem tw_332 : (Jvm.Cond.instantiable "TriedHarderModel" (17 : Nat)) ∈ TT := TT_i 332 rfl rfl
theorem tw_333 : (Jvm.Cond.methodLink "TriedHarderLaw" (12 : Nat) ({ cls := "TriedHarderModel", name := "<init>", desc := "()V" } : Jvm.MethodName)) ∈ TT := TT_i 333 rfl rfl
theorem tw_334 : (Jvm.Cond.instanceMethod ({ cls := "TriedHarderModel", name := "<init>", desc := "()V" } : Jvm.MethodName)) ∈ TT := TT_i 334 rfl rfl
theorem tw_335 : (Jvm.Cond.code ({ cls := "TriedHarderModel", name := "<init>", desc := "()V" } : Jvm.MethodName) prog_6_method_1_code (1 : Nat) (Option.none : Option Jvm.ClassFile.FieldType)) ∈ TT := TT_i 335 rfl rfl
theorem tw_336 : (Jvm.Cond.methodLink "TriedHarderModel" (1 : Nat) ({ cls := "java/lang/Object", name := "<init>", desc := "()V" } : Jvm.MethodName)) ∈ TT := TT_i 336 rfl rfl
theorem tw_337 : (Jvm.Cond.fieldLink "TriedHarderModel" (69 : Nat) "TriedHarderModel" "units" "I") ∈ TT := TT_i 337 rfl rfl
theorem tw_338 : (Jvm.Cond.fieldLink "TriedHarderModel" (7 : Nat) "TriedHarderModel" "stresses" "[I") ∈ TT := TT_i 338 rfl rfl
theorem tw_339 : (Jvm.Cond.fieldLink "TriedHarderModel" (13 : Nat) "TriedHarderModel" "hours" "[I") ∈ TT := TT_i 339 rfl rfl
theorem tw_340 : (Jvm.Cond.fieldLink "TriedHarderModel" (16 : Nat) "TriedHarderModel" "causes" "[I") ∈ TT := TT_i 340 rfl rfl
theorem tw_341 : (Jvm.Cond.fieldLink "TriedHarderModel" (19 : Nat) "TriedHarderModel" "speeds" "[I") ∈ TT := TT_i 341 rfl rfl
theorem tw_342 : (Jvm.Cond.fieldLink "TriedHarderModel" (167 : Nat) "TriedHarderModel" "steps" "I") ∈ TT := TT_i 342 rfl rfl
theorem tw_343 : (Jvm.Cond.fieldLink "TriedHarderModel" (22 : Nat) "TriedHarderModel" "stepStress" "[I") ∈ TT := TT_i 343 rfl rfl
theorem tw_344 : (Jvm.Cond.fieldLink "TriedHarderModel" (25 : Nat) "TriedHarderModel" "stepHours" "[I") ∈ TT := TT_i 344 rfl rfl
theorem tw_345 : (Jvm.Cond.fieldLink "TriedHarderModel" (28 : Nat) "TriedHarderModel" "price" "I") ∈ TT := TT_i 345 rfl rfl
theorem tw_346 : (Jvm.Cond.fieldLink "TriedHarderModel" (32 : Nat) "TriedHarderModel" "hourCost" "I") ∈ TT := TT_i 346 rfl rfl
theorem tw_347 : (Jvm.Cond.fieldLink "TriedHarderModel" (96 : Nat) "TriedHarderModel" "leftUpper" "J") ∈ TT := TT_i 347 rfl rfl
theorem tw_348 : (Jvm.Cond.fieldLink "TriedHarderModel" (100 : Nat) "TriedHarderModel" "leftLower" "J") ∈ TT := TT_i 348 rfl rfl
theorem tw_349 : (Jvm.Cond.fieldLink "TriedHarderModel" (111 : Nat) "TriedHarderModel" "upper" "J") ∈ TT := TT_i 349 rfl rfl
theorem tw_350 : (Jvm.Cond.fieldLink "TriedHarderModel" (114 : Nat) "TriedHarderModel" "lower" "J") ∈ TT := TT_i 350 rfl rfl
theorem tw_351 : (Jvm.Cond.fieldLink "TriedHarderModel" (35 : Nat) "TriedHarderModel" "failedRow" "[I") ∈ TT := TT_i 351 rfl rfl
theorem tw_352 : (Jvm.Cond.fieldLink "TriedHarderModel" (38 : Nat) "TriedHarderModel" "riskRow" "[I") ∈ TT := TT_i 352 rfl rfl
theorem tw_353 : (Jvm.Cond.fieldLink "TriedHarderModel" (41 : Nat) "TriedHarderModel" "halves" "[I") ∈ TT := TT_i 353 rfl rfl
theorem tw_354 : (Jvm.Cond.lays "TriedHarderModel" "TriedHarderModel" "units" "I") ∈ TT := TT_i 354 rfl rfl
theorem tw_356 : (Jvm.Cond.laysFinal "TriedHarderModel" "TriedHarderModel" "stresses" "[I") ∈ TT := TT_i 356 rfl rfl
theorem tw_358 : (Jvm.Cond.laysFinal "TriedHarderModel" "TriedHarderModel" "hours" "[I") ∈ TT := TT_i 358 rfl rfl
theorem tw_360 : (Jvm.Cond.laysFinal "TriedHarderModel" "TriedHarderModel" "causes" "[I") ∈ TT := TT_i 360 rfl rfl
theorem tw_362 : (Jvm.Cond.laysFinal "TriedHarderModel" "TriedHarderModel" "speeds" "[I") ∈ TT := TT_i 362 rfl rfl
theorem tw_364 : (Jvm.Cond.lays "TriedHarderModel" "TriedHarderModel" "steps" "I") ∈ TT := TT_i 364 rfl rfl
theorem tw_366 : (Jvm.Cond.laysFinal "TriedHarderModel" "TriedHarderModel" "stepStress" "[I") ∈ TT := TT_i 366 rfl rfl
theorem tw_368 : (Jvm.Cond.laysFinal "TriedHarderModel" "TriedHarderModel" "stepHours" "[I") ∈ TT := TT_i 368 rfl rfl
theorem tw_370 : (Jvm.Cond.lays "TriedHarderModel" "TriedHarderModel" "price" "I") ∈ TT := TT_i 370 rfl rfl
theorem tw_372 : (Jvm.Cond.lays "TriedHarderModel" "TriedHarderModel" "hourCost" "I") ∈ TT := TT_i 372 rfl rfl
theorem tw_374 : (Jvm.Cond.lays "TriedHarderModel" "TriedHarderModel" "leftUpper" "J") ∈ TT := TT_i 374 rfl rfl
theorem tw_376 : (Jvm.Cond.lays "TriedHarderModel" "TriedHarderModel" "leftLower" "J") ∈ TT := TT_i 376 rfl rfl
theorem tw_378 : (Jvm.Cond.lays "TriedHarderModel" "TriedHarderModel" "upper" "J") ∈ TT := TT_i 378 rfl rfl
theorem tw_380 : (Jvm.Cond.lays "TriedHarderModel" "TriedHarderModel" "lower" "J") ∈ TT := TT_i 380 rfl rfl
theorem tw_382 : (Jvm.Cond.laysFinal "TriedHarderModel" "TriedHarderModel" "failedRow" "[I") ∈ TT := TT_i 382 rfl rfl
theorem tw_384 : (Jvm.Cond.laysFinal "TriedHarderModel" "TriedHarderModel" "riskRow" "[I") ∈ TT := TT_i 384 rfl rfl
theorem tw_386 : (Jvm.Cond.laysFinal "TriedHarderModel" "TriedHarderModel" "halves" "[I") ∈ TT := TT_i 386 rfl rfl
theorem tw_389 : (Jvm.Cond.methodLink "TriedHarderLaw" (17 : Nat) ({ cls := "TriedHarderModel", name := "unit", desc := "(III)I" } : Jvm.MethodName)) ∈ TT := TT_i 389 rfl rfl
theorem tw_390 : (Jvm.Cond.instanceMethod ({ cls := "TriedHarderModel", name := "unit", desc := "(III)I" } : Jvm.MethodName)) ∈ TT := TT_i 390 rfl rfl
theorem tw_391 : (Jvm.Cond.selects "TriedHarderModel" ({ cls := "TriedHarderModel", name := "unit", desc := "(III)I" } : Jvm.MethodName) ({ cls := "TriedHarderModel", name := "unit", desc := "(III)I" } : Jvm.MethodName)) ∈ TT := TT_i 391 rfl rfl
theorem tw_392 : (Jvm.Cond.code ({ cls := "TriedHarderModel", name := "unit", desc := "(III)I" } : Jvm.MethodName) prog_6_method_8_code (4 : Nat) (Option.some Jvm.ClassFile.FieldType.int)) ∈ TT := TT_i 392 rfl rfl
theorem tw_393 : (Jvm.Cond.methodLink "TriedHarderModel" (65 : Nat) ({ cls := "TriedHarderModel", name := "isUnitLike", desc := "(III)Z" } : Jvm.MethodName)) ∈ TT := TT_i 393 rfl rfl
theorem tw_394 : (Jvm.Cond.static ({ cls := "TriedHarderModel", name := "isUnitLike", desc := "(III)Z" } : Jvm.MethodName)) ∈ TT := TT_i 394 rfl rfl
theorem tw_395 : (Jvm.Cond.code ({ cls := "TriedHarderModel", name := "isUnitLike", desc := "(III)Z" } : Jvm.MethodName) prog_6_method_7_code (3 : Nat) (Option.some Jvm.ClassFile.FieldType.boolean)) ∈ TT := TT_i 395 rfl rfl
theorem tw_396 : (Jvm.Cond.methodLink "TriedHarderModel" (56 : Nat) ({ cls := "TriedHarderModel", name := "isStress", desc := "(I)Z" } : Jvm.MethodName)) ∈ TT := TT_i 396 rfl rfl
theorem tw_397 : (Jvm.Cond.static ({ cls := "TriedHarderModel", name := "isStress", desc := "(I)Z" } : Jvm.MethodName)) ∈ TT := TT_i 397 rfl rfl
theorem tw_398 : (Jvm.Cond.code ({ cls := "TriedHarderModel", name := "isStress", desc := "(I)Z" } : Jvm.MethodName) prog_6_method_4_code (1 : Nat) (Option.some Jvm.ClassFile.FieldType.boolean)) ∈ TT := TT_i 398 rfl rfl
theorem tw_399 : (Jvm.Cond.constantLong "TriedHarderModel" (44 : Nat) (3 : Int64)) ∈ TT := TT_i 399 rfl rfl
theorem tw_400 : (Jvm.Cond.methodLink "TriedHarderModel" (46 : Nat) ({ cls := "TriedHarderModel", name := "in", desc := "(JJJ)Z" } : Jvm.MethodName)) ∈ TT := TT_i 400 rfl rfl
set_option maxRecDepth 20000 in
theorem tw_401 : (Jvm.Cond.static ({ cls := "TriedHarderModel", name := "in", desc := "(JJJ)Z" } : Jvm.MethodName)) ∈ TT := TT_i 401 rfl rfl
set_option maxRecDepth 20000 in
theorem tw_402 : (Jvm.Cond.code ({ cls := "TriedHarderModel", name := "in", desc := "(JJJ)Z" } : Jvm.MethodName) prog_6_method_3_code (6 : Nat) (Option.some Jvm.ClassFile.FieldType.boolean)) ∈ TT := TT_i 402 rfl rfl
set_option maxRecDepth 20000 in
theorem tw_403 : (Jvm.Cond.constantLong "TriedHarderModel" (60 : Nat) (500 : Int64)) ∈ TT := TT_i 403 rfl rfl
set_option maxRecDepth 20000 in
theorem tw_404 : (Jvm.Cond.methodLink "TriedHarderModel" (62 : Nat) ({ cls := "TriedHarderModel", name := "isCause", desc := "(I)Z" } : Jvm.MethodName)) ∈ TT := TT_i 404 rfl rfl
set_option maxRecDepth 20000 in
theorem tw_405 : (Jvm.Cond.static ({ cls := "TriedHarderModel", name := "isCause", desc := "(I)Z" } : Jvm.MethodName)) ∈ TT := TT_i 405 rfl rfl
set_option maxRecDepth 20000 in
theorem tw_406 : (Jvm.Cond.code ({ cls := "TriedHarderModel", name := "isCause", desc := "(I)Z" } : Jvm.MethodName) prog_6_method_5_code (1 : Nat) (Option.some Jvm.ClassFile.FieldType.boolean)) ∈ TT := TT_i 406 rfl rfl
set_option maxRecDepth 20000 in
theorem tw_407 : (Jvm.Cond.constantLong "TriedHarderModel" (50 : Nat) (-1 : Int64)) ∈ TT := TT_i 407 rfl rfl
set_option maxRecDepth 20000 in
theorem tw_408 : (Jvm.Cond.constantLong "TriedHarderModel" (52 : Nat) (2 : Int64)) ∈ TT := TT_i 408 rfl rfl
set_option maxRecDepth 20000 in
theorem tw_409 : (Jvm.Cond.methodLink "TriedHarderLaw" (22 : Nat) ({ cls := "TriedHarderModel", name := "set", desc := "(IIII)I" } : Jvm.MethodName)) ∈ TT := TT_i 409 rfl rfl
set_option maxRecDepth 20000 in
theorem tw_410 : (Jvm.Cond.instanceMethod ({ cls := "TriedHarderModel", name := "set", desc := "(IIII)I" } : Jvm.MethodName)) ∈ TT := TT_i 410 rfl rfl
set_option maxRecDepth 20000 in
theorem tw_411 : (Jvm.Cond.selects "TriedHarderModel" ({ cls := "TriedHarderModel", name := "set", desc := "(IIII)I" } : Jvm.MethodName) ({ cls := "TriedHarderModel", name := "set", desc := "(IIII)I" } : Jvm.MethodName)) ∈ TT := TT_i 411 rfl rfl
set_option maxRecDepth 20000 in
theorem tw_412 : (Jvm.Cond.code ({ cls := "TriedHarderModel", name := "set", desc := "(IIII)I" } : Jvm.MethodName) prog_6_method_10_code (5 : Nat) (Option.some Jvm.ClassFile.FieldType.int)) ∈ TT := TT_i 412 rfl rfl
set_option maxRecDepth 20000 in
theorem tw_413 : (Jvm.Cond.methodLink "TriedHarderModel" (72 : Nat) ({ cls := "TriedHarderModel", name := "isUnit", desc := "(I)Z" } : Jvm.MethodName)) ∈ TT := TT_i 413 rfl rfl
set_option maxRecDepth 20000 in
theorem tw_415 : (Jvm.Cond.instanceMethod ({ cls := "TriedHarderModel", name := "isUnit", desc := "(I)Z" } : Jvm.MethodName)) ∈ TT := TT_i 415 rfl rfl
set_option maxRecDepth 20000 in
theorem tw_416 : (Jvm.Cond.code ({ cls := "TriedHarderModel", name := "isUnit", desc := "(I)Z" } : Jvm.MethodName) prog_6_method_9_code (2 : Nat) (Option.some Jvm.ClassFile.FieldType.boolean)) ∈ TT := TT_i 416 rfl rfl
set_option maxRecDepth 20000 in
theorem tw_417 : (Jvm.Cond.methodLink "TriedHarderLaw" (27 : Nat) ({ cls := "TriedHarderModel", name := "drop", desc := "()I" } : Jvm.MethodName)) ∈ TT := TT_i 417 rfl rfl
set_option maxRecDepth 20000 in
theorem tw_418 : (Jvm.Cond.instanceMethod ({ cls := "TriedHarderModel", name := "drop", desc := "()I" } : Jvm.MethodName)) ∈ TT := TT_i 418 rfl rfl
set_option maxRecDepth 20000 in
theorem tw_419 : (Jvm.Cond.selects "TriedHarderModel" ({ cls := "TriedHarderModel", name := "drop", desc := "()I" } : Jvm.MethodName) ({ cls := "TriedHarderModel", name := "drop", desc := "()I" } : Jvm.MethodName)) ∈ TT := TT_i 419 rfl rfl
set_option maxRecDepth 20000 in
theorem tw_420 : (Jvm.Cond.code ({ cls := "TriedHarderModel", name := "drop", desc := "()I" } : Jvm.MethodName) prog_6_method_11_code (1 : Nat) (Option.some Jvm.ClassFile.FieldType.int)) ∈ TT := TT_i 420 rfl rfl
set_option maxRecDepth 20000 in
theorem tw_421 : (Jvm.Cond.methodLink "TriedHarderLaw" (32 : Nat) ({ cls := "TriedHarderModel", name := "told", desc := "(II)I" } : Jvm.MethodName)) ∈ TT := TT_i 421 rfl rfl
set_option maxRecDepth 20000 in
theorem tw_422 : (Jvm.Cond.instanceMethod ({ cls := "TriedHarderModel", name := "told", desc := "(II)I" } : Jvm.MethodName)) ∈ TT := TT_i 422 rfl rfl
set_option maxRecDepth 20000 in
theorem tw_423 : (Jvm.Cond.selects "TriedHarderModel" ({ cls := "TriedHarderModel", name := "told", desc := "(II)I" } : Jvm.MethodName) ({ cls := "TriedHarderModel", name := "told", desc := "(II)I" } : Jvm.MethodName)) ∈ TT := TT_i 423 rfl rfl
set_option maxRecDepth 20000 in
theorem tw_424 : (Jvm.Cond.code ({ cls := "TriedHarderModel", name := "told", desc := "(II)I" } : Jvm.MethodName) prog_6_method_13_code (3 : Nat) (Option.some Jvm.ClassFile.FieldType.int)) ∈ TT := TT_i 424 rfl rfl
set_option maxRecDepth 20000 in
theorem tw_425 : (Jvm.Cond.methodLink "TriedHarderModel" (75 : Nat) ({ cls := "TriedHarderModel", name := "useHour", desc := "(I)I" } : Jvm.MethodName)) ∈ TT := TT_i 425 rfl rfl
set_option maxRecDepth 20000 in
theorem tw_427 : (Jvm.Cond.instanceMethod ({ cls := "TriedHarderModel", name := "useHour", desc := "(I)I" } : Jvm.MethodName)) ∈ TT := TT_i 427 rfl rfl
set_option maxRecDepth 20000 in
theorem tw_428 : (Jvm.Cond.code ({ cls := "TriedHarderModel", name := "useHour", desc := "(I)I" } : Jvm.MethodName) prog_6_method_12_code (2 : Nat) (Option.some Jvm.ClassFile.FieldType.int)) ∈ TT := TT_i 428 rfl rfl
set_option maxRecDepth 20000 in
theorem tw_429 : (Jvm.Cond.methodLink "TriedHarderLaw" (36 : Nat) ({ cls := "TriedHarderModel", name := "count", desc := "(II)I" } : Jvm.MethodName)) ∈ TT := TT_i 429 rfl rfl
set_option maxRecDepth 20000 in
theorem tw_430 : (Jvm.Cond.instanceMethod ({ cls := "TriedHarderModel", name := "count", desc := "(II)I" } : Jvm.MethodName)) ∈ TT := TT_i 430 rfl rfl
set_option maxRecDepth 20000 in
theorem tw_431 : (Jvm.Cond.selects "TriedHarderModel" ({ cls := "TriedHarderModel", name := "count", desc := "(II)I" } : Jvm.MethodName) ({ cls := "TriedHarderModel", name := "count", desc := "(II)I" } : Jvm.MethodName)) ∈ TT := TT_i 431 rfl rfl
set_option maxRecDepth 20000 in
theorem tw_432 : (Jvm.Cond.code ({ cls := "TriedHarderModel", name := "count", desc := "(II)I" } : Jvm.MethodName) prog_6_method_15_code (7 : Nat) (Option.some Jvm.ClassFile.FieldType.int)) ∈ TT := TT_i 432 rfl rfl
set_option maxRecDepth 20000 in
theorem tw_433 : (Jvm.Cond.methodLink "TriedHarderModel" (79 : Nat) ({ cls := "TriedHarderModel", name := "isSet", desc := "(I)Z" } : Jvm.MethodName)) ∈ TT := TT_i 433 rfl rfl
set_option maxRecDepth 20000 in
theorem tw_434 : (Jvm.Cond.static ({ cls := "TriedHarderModel", name := "isSet", desc := "(I)Z" } : Jvm.MethodName)) ∈ TT := TT_i 434 rfl rfl
set_option maxRecDepth 20000 in
theorem tw_435 : (Jvm.Cond.code ({ cls := "TriedHarderModel", name := "isSet", desc := "(I)Z" } : Jvm.MethodName) prog_6_method_6_code (1 : Nat) (Option.some Jvm.ClassFile.FieldType.boolean)) ∈ TT := TT_i 435 rfl rfl
set_option maxRecDepth 20000 in
theorem tw_436 : (Jvm.Cond.constantLong "TriedHarderModel" (54 : Nat) (15 : Int64)) ∈ TT := TT_i 436 rfl rfl
set_option maxRecDepth 20000 in
theorem tw_437 : (Jvm.Cond.constantLong "TriedHarderModel" (82 : Nat) (7 : Int64)) ∈ TT := TT_i 437 rfl rfl
set_option maxRecDepth 20000 in
theorem tw_438 : (Jvm.Cond.methodLink "TriedHarderModel" (84 : Nat) ({ cls := "TriedHarderModel", name := "isIn", desc := "(II)Z" } : Jvm.MethodName)) ∈ TT := TT_i 438 rfl rfl
set_option maxRecDepth 20000 in
theorem tw_440 : (Jvm.Cond.instanceMethod ({ cls := "TriedHarderModel", name := "isIn", desc := "(II)Z" } : Jvm.MethodName)) ∈ TT := TT_i 440 rfl rfl
set_option maxRecDepth 20000 in
theorem tw_441 : (Jvm.Cond.code ({ cls := "TriedHarderModel", name := "isIn", desc := "(II)Z" } : Jvm.MethodName) prog_6_method_14_code (3 : Nat) (Option.some Jvm.ClassFile.FieldType.boolean)) ∈ TT := TT_i 441 rfl rfl
set_option maxRecDepth 20000 in
theorem tw_442 : (Jvm.Cond.methodLink "TriedHarderLaw" (40 : Nat) ({ cls := "TriedHarderModel", name := "risk", desc := "(II)I" } : Jvm.MethodName)) ∈ TT := TT_i 442 rfl rfl
set_option maxRecDepth 20000 in
theorem tw_443 : (Jvm.Cond.instanceMethod ({ cls := "TriedHarderModel", name := "risk", desc := "(II)I" } : Jvm.MethodName)) ∈ TT := TT_i 443 rfl rfl
set_option maxRecDepth 20000 in
theorem tw_444 : (Jvm.Cond.selects "TriedHarderModel" ({ cls := "TriedHarderModel", name := "risk", desc := "(II)I" } : Jvm.MethodName) ({ cls := "TriedHarderModel", name := "risk", desc := "(II)I" } : Jvm.MethodName)) ∈ TT := TT_i 444 rfl rfl
set_option maxRecDepth 20000 in
theorem tw_445 : (Jvm.Cond.code ({ cls := "TriedHarderModel", name := "risk", desc := "(II)I" } : Jvm.MethodName) prog_6_method_17_code (3 : Nat) (Option.some Jvm.ClassFile.FieldType.int)) ∈ TT := TT_i 445 rfl rfl
set_option maxRecDepth 20000 in
theorem tw_446 : (Jvm.Cond.methodLink "TriedHarderModel" (88 : Nat) ({ cls := "TriedHarderModel", name := "riskAt", desc := "(II)I" } : Jvm.MethodName)) ∈ TT := TT_i 446 rfl rfl
set_option maxRecDepth 20000 in
theorem tw_448 : (Jvm.Cond.instanceMethod ({ cls := "TriedHarderModel", name := "riskAt", desc := "(II)I" } : Jvm.MethodName)) ∈ TT := TT_i 448 rfl rfl
set_option maxRecDepth 20000 in
theorem tw_449 : (Jvm.Cond.code ({ cls := "TriedHarderModel", name := "riskAt", desc := "(II)I" } : Jvm.MethodName) prog_6_method_16_code (5 : Nat) (Option.some Jvm.ClassFile.FieldType.int)) ∈ TT := TT_i 449 rfl rfl
set_option maxRecDepth 20000 in
theorem tw_450 : (Jvm.Cond.methodLink "TriedHarderLaw" (45 : Nat) ({ cls := "TriedHarderModel", name := "left", desc := "(IIII)J" } : Jvm.MethodName)) ∈ TT := TT_i 450 rfl rfl
set_option maxRecDepth 20000 in
theorem tw_451 : (Jvm.Cond.instanceMethod ({ cls := "TriedHarderModel", name := "left", desc := "(IIII)J" } : Jvm.MethodName)) ∈ TT := TT_i 451 rfl rfl
set_option maxRecDepth 20000 in
theorem tw_452 : (Jvm.Cond.selects "TriedHarderModel" ({ cls := "TriedHarderModel", name := "left", desc := "(IIII)J" } : Jvm.MethodName) ({ cls := "TriedHarderModel", name := "left", desc := "(IIII)J" } : Jvm.MethodName)) ∈ TT := TT_i 452 rfl rfl
set_option maxRecDepth 20000 in
theorem tw_453 : (Jvm.Cond.code ({ cls := "TriedHarderModel", name := "left", desc := "(IIII)J" } : Jvm.MethodName) prog_6_method_25_code (5 : Nat) (Option.some Jvm.ClassFile.FieldType.long)) ∈ TT := TT_i 453 rfl rfl
set_option maxRecDepth 20000 in
theorem tw_454 : (Jvm.Cond.constantLong "TriedHarderModel" (120 : Nat) (-1002 : Int64)) ∈ TT := TT_i 454 rfl rfl
set_option maxRecDepth 20000 in
theorem tw_455 : (Jvm.Cond.methodLink "TriedHarderModel" (122 : Nat) ({ cls := "TriedHarderModel", name := "lay", desc := "(II)V" } : Jvm.MethodName)) ∈ TT := TT_i 455 rfl rfl
set_option maxRecDepth 20000 in
theorem tw_457 : (Jvm.Cond.instanceMethod ({ cls := "TriedHarderModel", name := "lay", desc := "(II)V" } : Jvm.MethodName)) ∈ TT := TT_i 457 rfl rfl
set_option maxRecDepth 20000 in
theorem tw_458 : (Jvm.Cond.code ({ cls := "TriedHarderModel", name := "lay", desc := "(II)V" } : Jvm.MethodName) prog_6_method_20_code (4 : Nat) (Option.none : Option Jvm.ClassFile.FieldType)) ∈ TT := TT_i 458 rfl rfl
set_option maxRecDepth 20000 in
theorem tw_459 : (Jvm.Cond.methodLink "TriedHarderModel" (92 : Nat) ({ cls := "TriedHarderModel", name := "failedAt", desc := "(III)I" } : Jvm.MethodName)) ∈ TT := TT_i 459 rfl rfl
set_option maxRecDepth 20000 in
theorem tw_461 : (Jvm.Cond.instanceMethod ({ cls := "TriedHarderModel", name := "failedAt", desc := "(III)I" } : Jvm.MethodName)) ∈ TT := TT_i 461 rfl rfl
set_option maxRecDepth 20000 in
theorem tw_462 : (Jvm.Cond.code ({ cls := "TriedHarderModel", name := "failedAt", desc := "(III)I" } : Jvm.MethodName) prog_6_method_18_code (7 : Nat) (Option.some Jvm.ClassFile.FieldType.int)) ∈ TT := TT_i 462 rfl rfl
set_option maxRecDepth 20000 in
theorem tw_463 : (Jvm.Cond.methodLink "TriedHarderModel" (126 : Nat) ({ cls := "TriedHarderModel", name := "findLeft", desc := "(I)V" } : Jvm.MethodName)) ∈ TT := TT_i 463 rfl rfl
set_option maxRecDepth 20000 in
theorem tw_465 : (Jvm.Cond.instanceMethod ({ cls := "TriedHarderModel", name := "findLeft", desc := "(I)V" } : Jvm.MethodName)) ∈ TT := TT_i 465 rfl rfl
set_option maxRecDepth 20000 in
theorem tw_466 : (Jvm.Cond.code ({ cls := "TriedHarderModel", name := "findLeft", desc := "(I)V" } : Jvm.MethodName) prog_6_method_22_code (3 : Nat) (Option.none : Option Jvm.ClassFile.FieldType)) ∈ TT := TT_i 466 rfl rfl
set_option maxRecDepth 20000 in
theorem tw_467 : (Jvm.Cond.methodLink "TriedHarderModel" (107 : Nat) ({ cls := "TriedHarderModel", name := "goOn", desc := "(I)V" } : Jvm.MethodName)) ∈ TT := TT_i 467 rfl rfl
set_option maxRecDepth 20000 in
theorem tw_469 : (Jvm.Cond.instanceMethod ({ cls := "TriedHarderModel", name := "goOn", desc := "(I)V" } : Jvm.MethodName)) ∈ TT := TT_i 469 rfl rfl
set_option maxRecDepth 20000 in
theorem tw_470 : (Jvm.Cond.code ({ cls := "TriedHarderModel", name := "goOn", desc := "(I)V" } : Jvm.MethodName) prog_6_method_21_code (6 : Nat) (Option.none : Option Jvm.ClassFile.FieldType)) ∈ TT := TT_i 470 rfl rfl
set_option maxRecDepth 20000 in
theorem tw_471 : (Jvm.Cond.methodLink "TriedHarderModel" (103 : Nat) ({ cls := "TriedHarderModel", name := "common", desc := "(JJ)J" } : Jvm.MethodName)) ∈ TT := TT_i 471 rfl rfl
set_option maxRecDepth 20000 in
theorem tw_472 : (Jvm.Cond.static ({ cls := "TriedHarderModel", name := "common", desc := "(JJ)J" } : Jvm.MethodName)) ∈ TT := TT_i 472 rfl rfl
set_option maxRecDepth 20000 in
theorem tw_473 : (Jvm.Cond.code ({ cls := "TriedHarderModel", name := "common", desc := "(JJ)J" } : Jvm.MethodName) prog_6_method_19_code (10 : Nat) (Option.some Jvm.ClassFile.FieldType.long)) ∈ TT := TT_i 473 rfl rfl
set_option maxRecDepth 20000 in
theorem tw_474 : (Jvm.Cond.methodLink "TriedHarderLaw" (49 : Nat) ({ cls := "TriedHarderModel", name := "time", desc := "(IIII)I" } : Jvm.MethodName)) ∈ TT := TT_i 474 rfl rfl
set_option maxRecDepth 20000 in
theorem tw_475 : (Jvm.Cond.instanceMethod ({ cls := "TriedHarderModel", name := "time", desc := "(IIII)I" } : Jvm.MethodName)) ∈ TT := TT_i 475 rfl rfl
set_option maxRecDepth 20000 in
theorem tw_476 : (Jvm.Cond.selects "TriedHarderModel" ({ cls := "TriedHarderModel", name := "time", desc := "(IIII)I" } : Jvm.MethodName) ({ cls := "TriedHarderModel", name := "time", desc := "(IIII)I" } : Jvm.MethodName)) ∈ TT := TT_i 476 rfl rfl
set_option maxRecDepth 20000 in
theorem tw_477 : (Jvm.Cond.code ({ cls := "TriedHarderModel", name := "time", desc := "(IIII)I" } : Jvm.MethodName) prog_6_method_27_code (5 : Nat) (Option.some Jvm.ClassFile.FieldType.int)) ∈ TT := TT_i 477 rfl rfl
set_option maxRecDepth 20000 in
theorem tw_478 : (Jvm.Cond.constantLong "TriedHarderModel" (129 : Nat) (1000 : Int64)) ∈ TT := TT_i 478 rfl rfl
set_option maxRecDepth 20000 in
theorem tw_479 : (Jvm.Cond.methodLink "TriedHarderModel" (131 : Nat) ({ cls := "TriedHarderModel", name := "timeOf", desc := "(IIII)I" } : Jvm.MethodName)) ∈ TT := TT_i 479 rfl rfl
set_option maxRecDepth 20000 in
theorem tw_481 : (Jvm.Cond.instanceMethod ({ cls := "TriedHarderModel", name := "timeOf", desc := "(IIII)I" } : Jvm.MethodName)) ∈ TT := TT_i 481 rfl rfl
set_option maxRecDepth 20000 in
theorem tw_482 : (Jvm.Cond.code ({ cls := "TriedHarderModel", name := "timeOf", desc := "(IIII)I" } : Jvm.MethodName) prog_6_method_26_code (6 : Nat) (Option.some Jvm.ClassFile.FieldType.int)) ∈ TT := TT_i 482 rfl rfl
set_option maxRecDepth 20000 in
theorem tw_483 : (Jvm.Cond.methodLink "TriedHarderLaw" (53 : Nat) ({ cls := "TriedHarderModel", name := "mean", desc := "(IIII)J" } : Jvm.MethodName)) ∈ TT := TT_i 483 rfl rfl
set_option maxRecDepth 20000 in
theorem tw_484 : (Jvm.Cond.instanceMethod ({ cls := "TriedHarderModel", name := "mean", desc := "(IIII)J" } : Jvm.MethodName)) ∈ TT := TT_i 484 rfl rfl
set_option maxRecDepth 20000 in
theorem tw_485 : (Jvm.Cond.selects "TriedHarderModel" ({ cls := "TriedHarderModel", name := "mean", desc := "(IIII)J" } : Jvm.MethodName) ({ cls := "TriedHarderModel", name := "mean", desc := "(IIII)J" } : Jvm.MethodName)) ∈ TT := TT_i 485 rfl rfl
set_option maxRecDepth 20000 in
theorem tw_486 : (Jvm.Cond.code ({ cls := "TriedHarderModel", name := "mean", desc := "(IIII)J" } : Jvm.MethodName) prog_6_method_28_code (5 : Nat) (Option.some Jvm.ClassFile.FieldType.long)) ∈ TT := TT_i 486 rfl rfl
set_option maxRecDepth 20000 in
theorem tw_487 : (Jvm.Cond.methodLink "TriedHarderModel" (135 : Nat) ({ cls := "TriedHarderModel", name := "findRest", desc := "(II)V" } : Jvm.MethodName)) ∈ TT := TT_i 487 rfl rfl
set_option maxRecDepth 20000 in
theorem tw_489 : (Jvm.Cond.instanceMethod ({ cls := "TriedHarderModel", name := "findRest", desc := "(II)V" } : Jvm.MethodName)) ∈ TT := TT_i 489 rfl rfl
set_option maxRecDepth 20000 in
theorem tw_490 : (Jvm.Cond.code ({ cls := "TriedHarderModel", name := "findRest", desc := "(II)V" } : Jvm.MethodName) prog_6_method_24_code (4 : Nat) (Option.none : Option Jvm.ClassFile.FieldType)) ∈ TT := TT_i 490 rfl rfl
set_option maxRecDepth 20000 in
theorem tw_491 : (Jvm.Cond.methodLink "TriedHarderModel" (117 : Nat) ({ cls := "TriedHarderModel", name := "add", desc := "()V" } : Jvm.MethodName)) ∈ TT := TT_i 491 rfl rfl
set_option maxRecDepth 20000 in
theorem tw_493 : (Jvm.Cond.instanceMethod ({ cls := "TriedHarderModel", name := "add", desc := "()V" } : Jvm.MethodName)) ∈ TT := TT_i 493 rfl rfl
set_option maxRecDepth 20000 in
theorem tw_494 : (Jvm.Cond.code ({ cls := "TriedHarderModel", name := "add", desc := "()V" } : Jvm.MethodName) prog_6_method_23_code (3 : Nat) (Option.none : Option Jvm.ClassFile.FieldType)) ∈ TT := TT_i 494 rfl rfl
set_option maxRecDepth 20000 in
theorem tw_495 : (Jvm.Cond.methodLink "TriedHarderLaw" (58 : Nat) ({ cls := "TriedHarderModel", name := "rest", desc := "(IIIII)J" } : Jvm.MethodName)) ∈ TT := TT_i 495 rfl rfl
set_option maxRecDepth 20000 in
theorem tw_496 : (Jvm.Cond.instanceMethod ({ cls := "TriedHarderModel", name := "rest", desc := "(IIIII)J" } : Jvm.MethodName)) ∈ TT := TT_i 496 rfl rfl
set_option maxRecDepth 20000 in
theorem tw_497 : (Jvm.Cond.selects "TriedHarderModel" ({ cls := "TriedHarderModel", name := "rest", desc := "(IIIII)J" } : Jvm.MethodName) ({ cls := "TriedHarderModel", name := "rest", desc := "(IIIII)J" } : Jvm.MethodName)) ∈ TT := TT_i 497 rfl rfl
set_option maxRecDepth 20000 in
theorem tw_498 : (Jvm.Cond.code ({ cls := "TriedHarderModel", name := "rest", desc := "(IIIII)J" } : Jvm.MethodName) prog_6_method_30_code (6 : Nat) (Option.some Jvm.ClassFile.FieldType.long)) ∈ TT := TT_i 498 rfl rfl
set_option maxRecDepth 20000 in
theorem tw_499 : (Jvm.Cond.methodLink "TriedHarderModel" (138 : Nat) ({ cls := "TriedHarderModel", name := "isLeftAt", desc := "(I)Z" } : Jvm.MethodName)) ∈ TT := TT_i 499 rfl rfl
set_option maxRecDepth 20000 in
theorem tw_501 : (Jvm.Cond.instanceMethod ({ cls := "TriedHarderModel", name := "isLeftAt", desc := "(I)Z" } : Jvm.MethodName)) ∈ TT := TT_i 501 rfl rfl
set_option maxRecDepth 20000 in
theorem tw_502 : (Jvm.Cond.code ({ cls := "TriedHarderModel", name := "isLeftAt", desc := "(I)Z" } : Jvm.MethodName) prog_6_method_29_code (2 : Nat) (Option.some Jvm.ClassFile.FieldType.boolean)) ∈ TT := TT_i 502 rfl rfl
set_option maxRecDepth 20000 in
theorem tw_503 : (Jvm.Cond.constantLong "TriedHarderModel" (141 : Nat) (-1003 : Int64)) ∈ TT := TT_i 503 rfl rfl
set_option maxRecDepth 20000 in
theorem tw_504 : (Jvm.Cond.methodLink "TriedHarderLaw" (62 : Nat) ({ cls := "TriedHarderModel", name := "runIn", desc := "(IIII)I" } : Jvm.MethodName)) ∈ TT := TT_i 504 rfl rfl
set_option maxRecDepth 20000 in
theorem tw_505 : (Jvm.Cond.instanceMethod ({ cls := "TriedHarderModel", name := "runIn", desc := "(IIII)I" } : Jvm.MethodName)) ∈ TT := TT_i 505 rfl rfl
set_option maxRecDepth 20000 in
theorem tw_506 : (Jvm.Cond.selects "TriedHarderModel" ({ cls := "TriedHarderModel", name := "runIn", desc := "(IIII)I" } : Jvm.MethodName) ({ cls := "TriedHarderModel", name := "runIn", desc := "(IIII)I" } : Jvm.MethodName)) ∈ TT := TT_i 506 rfl rfl
set_option maxRecDepth 20000 in
theorem tw_507 : (Jvm.Cond.code ({ cls := "TriedHarderModel", name := "runIn", desc := "(IIII)I" } : Jvm.MethodName) prog_6_method_32_code (15 : Nat) (Option.some Jvm.ClassFile.FieldType.int)) ∈ TT := TT_i 507 rfl rfl
set_option maxRecDepth 20000 in
theorem tw_508 : (Jvm.Cond.constantLong "TriedHarderModel" (143 : Nat) (100 : Int64)) ∈ TT := TT_i 508 rfl rfl
set_option maxRecDepth 20000 in
theorem tw_509 : (Jvm.Cond.methodLink "TriedHarderModel" (145 : Nat) ({ cls := "TriedHarderModel", name := "isGreater", desc := "(JJJJ)Z" } : Jvm.MethodName)) ∈ TT := TT_i 509 rfl rfl
set_option maxRecDepth 20000 in
theorem tw_510 : (Jvm.Cond.static ({ cls := "TriedHarderModel", name := "isGreater", desc := "(JJJJ)Z" } : Jvm.MethodName)) ∈ TT := TT_i 510 rfl rfl
set_option maxRecDepth 20000 in
theorem tw_511 : (Jvm.Cond.code ({ cls := "TriedHarderModel", name := "isGreater", desc := "(JJJJ)Z" } : Jvm.MethodName) prog_6_method_31_code (12 : Nat) (Option.some Jvm.ClassFile.FieldType.boolean)) ∈ TT := TT_i 511 rfl rfl
set_option maxRecDepth 20000 in
theorem tw_512 : (Jvm.Cond.methodLink "TriedHarderLaw" (66 : Nat) ({ cls := "TriedHarderModel", name := "speed", desc := "(II)I" } : Jvm.MethodName)) ∈ TT := TT_i 512 rfl rfl
set_option maxRecDepth 20000 in
theorem tw_513 : (Jvm.Cond.instanceMethod ({ cls := "TriedHarderModel", name := "speed", desc := "(II)I" } : Jvm.MethodName)) ∈ TT := TT_i 513 rfl rfl
set_option maxRecDepth 20000 in
theorem tw_514 : (Jvm.Cond.selects "TriedHarderModel" ({ cls := "TriedHarderModel", name := "speed", desc := "(II)I" } : Jvm.MethodName) ({ cls := "TriedHarderModel", name := "speed", desc := "(II)I" } : Jvm.MethodName)) ∈ TT := TT_i 514 rfl rfl
set_option maxRecDepth 20000 in
theorem tw_515 : (Jvm.Cond.code ({ cls := "TriedHarderModel", name := "speed", desc := "(II)I" } : Jvm.MethodName) prog_6_method_33_code (4 : Nat) (Option.some Jvm.ClassFile.FieldType.int)) ∈ TT := TT_i 515 rfl rfl
set_option maxRecDepth 20000 in
theorem tw_516 : (Jvm.Cond.methodLink "TriedHarderLaw" (70 : Nat) ({ cls := "TriedHarderModel", name := "says", desc := "(III)I" } : Jvm.MethodName)) ∈ TT := TT_i 516 rfl rfl
set_option maxRecDepth 20000 in
theorem tw_517 : (Jvm.Cond.instanceMethod ({ cls := "TriedHarderModel", name := "says", desc := "(III)I" } : Jvm.MethodName)) ∈ TT := TT_i 517 rfl rfl
set_option maxRecDepth 20000 in
theorem tw_518 : (Jvm.Cond.selects "TriedHarderModel" ({ cls := "TriedHarderModel", name := "says", desc := "(III)I" } : Jvm.MethodName) ({ cls := "TriedHarderModel", name := "says", desc := "(III)I" } : Jvm.MethodName)) ∈ TT := TT_i 518 rfl rfl
set_option maxRecDepth 20000 in
theorem tw_519 : (Jvm.Cond.code ({ cls := "TriedHarderModel", name := "says", desc := "(III)I" } : Jvm.MethodName) prog_6_method_36_code (4 : Nat) (Option.some Jvm.ClassFile.FieldType.int)) ∈ TT := TT_i 519 rfl rfl
set_option maxRecDepth 20000 in
theorem tw_520 : (Jvm.Cond.methodLink "TriedHarderModel" (153 : Nat) ({ cls := "TriedHarderModel", name := "isLaw", desc := "(II)Z" } : Jvm.MethodName)) ∈ TT := TT_i 520 rfl rfl
set_option maxRecDepth 20000 in
theorem tw_521 : (Jvm.Cond.static ({ cls := "TriedHarderModel", name := "isLaw", desc := "(II)Z" } : Jvm.MethodName)) ∈ TT := TT_i 521 rfl rfl
set_option maxRecDepth 20000 in
theorem tw_522 : (Jvm.Cond.code ({ cls := "TriedHarderModel", name := "isLaw", desc := "(II)Z" } : Jvm.MethodName) prog_6_method_35_code (2 : Nat) (Option.some Jvm.ClassFile.FieldType.boolean)) ∈ TT := TT_i 522 rfl rfl
set_option maxRecDepth 20000 in
theorem tw_523 : (Jvm.Cond.constantLong "TriedHarderModel" (149 : Nat) (100000 : Int64)) ∈ TT := TT_i 523 rfl rfl
set_option maxRecDepth 20000 in
theorem tw_524 : (Jvm.Cond.constantLong "TriedHarderModel" (151 : Nat) (20 : Int64)) ∈ TT := TT_i 524 rfl rfl
set_option maxRecDepth 20000 in
theorem tw_525 : (Jvm.Cond.methodLink "TriedHarderModel" (156 : Nat) ({ cls := "TriedHarderModel", name := "saysOf", desc := "(III)I" } : Jvm.MethodName)) ∈ TT := TT_i 525 rfl rfl
set_option maxRecDepth 20000 in
theorem tw_526 : (Jvm.Cond.static ({ cls := "TriedHarderModel", name := "saysOf", desc := "(III)I" } : Jvm.MethodName)) ∈ TT := TT_i 526 rfl rfl
set_option maxRecDepth 20000 in
theorem tw_527 : (Jvm.Cond.code ({ cls := "TriedHarderModel", name := "saysOf", desc := "(III)I" } : Jvm.MethodName) prog_6_method_34_code (5 : Nat) (Option.some Jvm.ClassFile.FieldType.int)) ∈ TT := TT_i 527 rfl rfl
set_option maxRecDepth 20000 in
theorem tw_528 : (Jvm.Cond.methodLink "TriedHarderLaw" (74 : Nat) ({ cls := "TriedHarderModel", name := "miss", desc := "(II)I" } : Jvm.MethodName)) ∈ TT := TT_i 528 rfl rfl
set_option maxRecDepth 20000 in
theorem tw_529 : (Jvm.Cond.instanceMethod ({ cls := "TriedHarderModel", name := "miss", desc := "(II)I" } : Jvm.MethodName)) ∈ TT := TT_i 529 rfl rfl
set_option maxRecDepth 20000 in
theorem tw_530 : (Jvm.Cond.selects "TriedHarderModel" ({ cls := "TriedHarderModel", name := "miss", desc := "(II)I" } : Jvm.MethodName) ({ cls := "TriedHarderModel", name := "miss", desc := "(II)I" } : Jvm.MethodName)) ∈ TT := TT_i 530 rfl rfl
set_option maxRecDepth 20000 in
theorem tw_531 : (Jvm.Cond.code ({ cls := "TriedHarderModel", name := "miss", desc := "(II)I" } : Jvm.MethodName) prog_6_method_39_code (4 : Nat) (Option.some Jvm.ClassFile.FieldType.int)) ∈ TT := TT_i 531 rfl rfl
set_option maxRecDepth 20000 in
theorem tw_532 : (Jvm.Cond.methodLink "TriedHarderModel" (159 : Nat) ({ cls := "TriedHarderModel", name := "findHalves", desc := "()Z" } : Jvm.MethodName)) ∈ TT := TT_i 532 rfl rfl
set_option maxRecDepth 20000 in
theorem tw_534 : (Jvm.Cond.instanceMethod ({ cls := "TriedHarderModel", name := "findHalves", desc := "()Z" } : Jvm.MethodName)) ∈ TT := TT_i 534 rfl rfl
set_option maxRecDepth 20000 in
theorem tw_535 : (Jvm.Cond.code ({ cls := "TriedHarderModel", name := "findHalves", desc := "()Z" } : Jvm.MethodName) prog_6_method_37_code (3 : Nat) (Option.some Jvm.ClassFile.FieldType.boolean)) ∈ TT := TT_i 535 rfl rfl
set_option maxRecDepth 20000 in
theorem tw_536 : (Jvm.Cond.methodLink "TriedHarderModel" (163 : Nat) ({ cls := "TriedHarderModel", name := "missOf", desc := "(II)I" } : Jvm.MethodName)) ∈ TT := TT_i 536 rfl rfl
set_option maxRecDepth 20000 in
theorem tw_538 : (Jvm.Cond.instanceMethod ({ cls := "TriedHarderModel", name := "missOf", desc := "(II)I" } : Jvm.MethodName)) ∈ TT := TT_i 538 rfl rfl
set_option maxRecDepth 20000 in
theorem tw_539 : (Jvm.Cond.code ({ cls := "TriedHarderModel", name := "missOf", desc := "(II)I" } : Jvm.MethodName) prog_6_method_38_code (6 : Nat) (Option.some Jvm.ClassFile.FieldType.int)) ∈ TT := TT_i 539 rfl rfl
set_option maxRecDepth 20000 in
theorem tw_540 : (Jvm.Cond.methodLink "TriedHarderLaw" (78 : Nat) ({ cls := "TriedHarderModel", name := "law", desc := "(III)I" } : Jvm.MethodName)) ∈ TT := TT_i 540 rfl rfl
set_option maxRecDepth 20000 in
theorem tw_541 : (Jvm.Cond.instanceMethod ({ cls := "TriedHarderModel", name := "law", desc := "(III)I" } : Jvm.MethodName)) ∈ TT := TT_i 541 rfl rfl
set_option maxRecDepth 20000 in
theorem tw_542 : (Jvm.Cond.selects "TriedHarderModel" ({ cls := "TriedHarderModel", name := "law", desc := "(III)I" } : Jvm.MethodName) ({ cls := "TriedHarderModel", name := "law", desc := "(III)I" } : Jvm.MethodName)) ∈ TT := TT_i 542 rfl rfl
set_option maxRecDepth 20000 in
theorem tw_543 : (Jvm.Cond.code ({ cls := "TriedHarderModel", name := "law", desc := "(III)I" } : Jvm.MethodName) prog_6_method_40_code (10 : Nat) (Option.some Jvm.ClassFile.FieldType.int)) ∈ TT := TT_i 543 rfl rfl
set_option maxRecDepth 20000 in
theorem tw_544 : (Jvm.Cond.constant "TriedHarderModel" (166 : Nat) (100000 : Int32)) ∈ TT := TT_i 544 rfl rfl
set_option maxRecDepth 20000 in
theorem tw_545 : (Jvm.Cond.methodLink "TriedHarderLaw" (82 : Nat) ({ cls := "TriedHarderModel", name := "step", desc := "(II)I" } : Jvm.MethodName)) ∈ TT := TT_i 545 rfl rfl
set_option maxRecDepth 20000 in
theorem tw_546 : (Jvm.Cond.instanceMethod ({ cls := "TriedHarderModel", name := "step", desc := "(II)I" } : Jvm.MethodName)) ∈ TT := TT_i 546 rfl rfl
set_option maxRecDepth 20000 in
theorem tw_547 : (Jvm.Cond.selects "TriedHarderModel" ({ cls := "TriedHarderModel", name := "step", desc := "(II)I" } : Jvm.MethodName) ({ cls := "TriedHarderModel", name := "step", desc := "(II)I" } : Jvm.MethodName)) ∈ TT := TT_i 547 rfl rfl
set_option maxRecDepth 20000 in
theorem tw_548 : (Jvm.Cond.code ({ cls := "TriedHarderModel", name := "step", desc := "(II)I" } : Jvm.MethodName) prog_6_method_41_code (3 : Nat) (Option.some Jvm.ClassFile.FieldType.int)) ∈ TT := TT_i 548 rfl rfl
set_option maxRecDepth 20000 in
theorem tw_549 : (Jvm.Cond.methodLink "TriedHarderLaw" (86 : Nat) ({ cls := "TriedHarderModel", name := "clear", desc := "()I" } : Jvm.MethodName)) ∈ TT := TT_i 549 rfl rfl
set_option maxRecDepth 20000 in
theorem tw_550 : (Jvm.Cond.instanceMethod ({ cls := "TriedHarderModel", name := "clear", desc := "()I" } : Jvm.MethodName)) ∈ TT := TT_i 550 rfl rfl
set_option maxRecDepth 20000 in
theorem tw_551 : (Jvm.Cond.selects "TriedHarderModel" ({ cls := "TriedHarderModel", name := "clear", desc := "()I" } : Jvm.MethodName) ({ cls := "TriedHarderModel", name := "clear", desc := "()I" } : Jvm.MethodName)) ∈ TT := TT_i 551 rfl rfl
set_option maxRecDepth 20000 in
theorem tw_552 : (Jvm.Cond.code ({ cls := "TriedHarderModel", name := "clear", desc := "()I" } : Jvm.MethodName) prog_6_method_42_code (2 : Nat) (Option.some Jvm.ClassFile.FieldType.int)) ∈ TT := TT_i 552 rfl rfl
set_option maxRecDepth 20000 in
theorem tw_553 : (Jvm.Cond.methodLink "TriedHarderLaw" (91 : Nat) ({ cls := "TriedHarderModel", name := "used", desc := "(I)I" } : Jvm.MethodName)) ∈ TT := TT_i 553 rfl rfl
set_option maxRecDepth 20000 in
theorem tw_554 : (Jvm.Cond.instanceMethod ({ cls := "TriedHarderModel", name := "used", desc := "(I)I" } : Jvm.MethodName)) ∈ TT := TT_i 554 rfl rfl
set_option maxRecDepth 20000 in
theorem tw_555 : (Jvm.Cond.selects "TriedHarderModel" ({ cls := "TriedHarderModel", name := "used", desc := "(I)I" } : Jvm.MethodName) ({ cls := "TriedHarderModel", name := "used", desc := "(I)I" } : Jvm.MethodName)) ∈ TT := TT_i 555 rfl rfl
set_option maxRecDepth 20000 in
theorem tw_556 : (Jvm.Cond.code ({ cls := "TriedHarderModel", name := "used", desc := "(I)I" } : Jvm.MethodName) prog_6_method_43_code (4 : Nat) (Option.some Jvm.ClassFile.FieldType.int)) ∈ TT := TT_i 556 rfl rfl
set_option maxRecDepth 20000 in
theorem tw_557 : (Jvm.Cond.methodLink "TriedHarderLaw" (95 : Nat) ({ cls := "TriedHarderModel", name := "fails", desc := "(I)I" } : Jvm.MethodName)) ∈ TT := TT_i 557 rfl rfl
set_option maxRecDepth 20000 in
theorem tw_558 : (Jvm.Cond.instanceMethod ({ cls := "TriedHarderModel", name := "fails", desc := "(I)I" } : Jvm.MethodName)) ∈ TT := TT_i 558 rfl rfl
set_option maxRecDepth 20000 in
theorem tw_559 : (Jvm.Cond.selects "TriedHarderModel" ({ cls := "TriedHarderModel", name := "fails", desc := "(I)I" } : Jvm.MethodName) ({ cls := "TriedHarderModel", name := "fails", desc := "(I)I" } : Jvm.MethodName)) ∈ TT := TT_i 559 rfl rfl
set_option maxRecDepth 20000 in
theorem tw_560 : (Jvm.Cond.code ({ cls := "TriedHarderModel", name := "fails", desc := "(I)I" } : Jvm.MethodName) prog_6_method_44_code (6 : Nat) (Option.some Jvm.ClassFile.FieldType.int)) ∈ TT := TT_i 560 rfl rfl
set_option maxRecDepth 20000 in
theorem tw_561 : (Jvm.Cond.methodLink "TriedHarderLaw" (99 : Nat) ({ cls := "TriedHarderModel", name := "end", desc := "(IIII)I" } : Jvm.MethodName)) ∈ TT := TT_i 561 rfl rfl
set_option maxRecDepth 20000 in
theorem tw_562 : (Jvm.Cond.instanceMethod ({ cls := "TriedHarderModel", name := "end", desc := "(IIII)I" } : Jvm.MethodName)) ∈ TT := TT_i 562 rfl rfl
set_option maxRecDepth 20000 in
theorem tw_563 : (Jvm.Cond.selects "TriedHarderModel" ({ cls := "TriedHarderModel", name := "end", desc := "(IIII)I" } : Jvm.MethodName) ({ cls := "TriedHarderModel", name := "end", desc := "(IIII)I" } : Jvm.MethodName)) ∈ TT := TT_i 563 rfl rfl
set_option maxRecDepth 20000 in
theorem tw_564 : (Jvm.Cond.code ({ cls := "TriedHarderModel", name := "end", desc := "(IIII)I" } : Jvm.MethodName) prog_6_method_47_code (10 : Nat) (Option.some Jvm.ClassFile.FieldType.int)) ∈ TT := TT_i 564 rfl rfl
set_option maxRecDepth 20000 in
theorem tw_565 : (Jvm.Cond.constantLong "TriedHarderModel" (174 : Nat) (12 : Int64)) ∈ TT := TT_i 565 rfl rfl
set_option maxRecDepth 20000 in
theorem tw_566 : (Jvm.Cond.constantLong "TriedHarderModel" (176 : Nat) (50 : Int64)) ∈ TT := TT_i 566 rfl rfl
set_option maxRecDepth 20000 in
theorem tw_567 : (Jvm.Cond.constantLong "TriedHarderModel" (178 : Nat) (99 : Int64)) ∈ TT := TT_i 567 rfl rfl
set_option maxRecDepth 20000 in
theorem tw_568 : (Jvm.Cond.constantLong "TriedHarderModel" (180 : Nat) (10 : Int64)) ∈ TT := TT_i 568 rfl rfl
set_option maxRecDepth 20000 in
theorem tw_569 : (Jvm.Cond.methodLink "TriedHarderModel" (170 : Nat) ({ cls := "TriedHarderModel", name := "power", desc := "(JI)J" } : Jvm.MethodName)) ∈ TT := TT_i 569 rfl rfl
set_option maxRecDepth 20000 in
theorem tw_570 : (Jvm.Cond.static ({ cls := "TriedHarderModel", name := "power", desc := "(JI)J" } : Jvm.MethodName)) ∈ TT := TT_i 570 rfl rfl
set_option maxRecDepth 20000 in
theorem tw_571 : (Jvm.Cond.code ({ cls := "TriedHarderModel", name := "power", desc := "(JI)J" } : Jvm.MethodName) prog_6_method_45_code (6 : Nat) (Option.some Jvm.ClassFile.FieldType.long)) ∈ TT := TT_i 571 rfl rfl
set_option maxRecDepth 20000 in
theorem tw_572 : (Jvm.Cond.methodLink "TriedHarderModel" (182 : Nat) ({ cls := "TriedHarderModel", name := "chance", desc := "(IIII)J" } : Jvm.MethodName)) ∈ TT := TT_i 572 rfl rfl
set_option maxRecDepth 20000 in
theorem tw_573 : (Jvm.Cond.static ({ cls := "TriedHarderModel", name := "chance", desc := "(IIII)J" } : Jvm.MethodName)) ∈ TT := TT_i 573 rfl rfl
set_option maxRecDepth 20000 in
theorem tw_574 : (Jvm.Cond.code ({ cls := "TriedHarderModel", name := "chance", desc := "(IIII)J" } : Jvm.MethodName) prog_6_method_46_code (9 : Nat) (Option.some Jvm.ClassFile.FieldType.long)) ∈ TT := TT_i 574 rfl rfl
set_option maxRecDepth 20000 in
theorem tw_575 : (Jvm.Cond.methodLink "TriedHarderLaw" (103 : Nat) ({ cls := "TriedHarderModel", name := "rule", desc := "(II)I" } : Jvm.MethodName)) ∈ TT := TT_i 575 rfl rfl
set_option maxRecDepth 20000 in
theorem tw_576 : (Jvm.Cond.instanceMethod ({ cls := "TriedHarderModel", name := "rule", desc := "(II)I" } : Jvm.MethodName)) ∈ TT := TT_i 576 rfl rfl
set_option maxRecDepth 20000 in
theorem tw_577 : (Jvm.Cond.selects "TriedHarderModel" ({ cls := "TriedHarderModel", name := "rule", desc := "(II)I" } : Jvm.MethodName) ({ cls := "TriedHarderModel", name := "rule", desc := "(II)I" } : Jvm.MethodName)) ∈ TT := TT_i 577 rfl rfl
set_option maxRecDepth 20000 in
theorem tw_578 : (Jvm.Cond.code ({ cls := "TriedHarderModel", name := "rule", desc := "(II)I" } : Jvm.MethodName) prog_6_method_48_code (4 : Nat) (Option.some Jvm.ClassFile.FieldType.int)) ∈ TT := TT_i 578 rfl rfl
set_option maxRecDepth 20000 in
theorem tw_579 : (Jvm.Cond.methodLink "TriedHarderLaw" (107 : Nat) ({ cls := "TriedHarderModel", name := "plan", desc := "(III)I" } : Jvm.MethodName)) ∈ TT := TT_i 579 rfl rfl
set_option maxRecDepth 20000 in
theorem tw_580 : (Jvm.Cond.instanceMethod ({ cls := "TriedHarderModel", name := "plan", desc := "(III)I" } : Jvm.MethodName)) ∈ TT := TT_i 580 rfl rfl
set_option maxRecDepth 20000 in
theorem tw_581 : (Jvm.Cond.selects "TriedHarderModel" ({ cls := "TriedHarderModel", name := "plan", desc := "(III)I" } : Jvm.MethodName) ({ cls := "TriedHarderModel", name := "plan", desc := "(III)I" } : Jvm.MethodName)) ∈ TT := TT_i 581 rfl rfl
set_option maxRecDepth 20000 in
theorem tw_582 : (Jvm.Cond.code ({ cls := "TriedHarderModel", name := "plan", desc := "(III)I" } : Jvm.MethodName) prog_6_method_49_code (12 : Nat) (Option.some Jvm.ClassFile.FieldType.int)) ∈ TT := TT_i 582 rfl rfl
set_option maxRecDepth 20000 in
theorem tw_583 : (Jvm.Cond.constantLong "TriedHarderModel" (186 : Nat) (10000 : Int64)) ∈ TT := TT_i 583 rfl rfl
theorem ts_0 : Cond.selects "TriedHarder" ⟨"TriedHarder", "useHour", "(I)I"⟩ ⟨"TriedHarder", "useHour", "(I)I"⟩ ∈ TT := TT_s 0 rfl rfl
theorem ts_1 : Cond.selects "TriedHarder" ⟨"TriedHarder", "shareInCount", "(II)I"⟩ ⟨"TriedHarder", "shareInCount", "(II)I"⟩ ∈ TT := TT_s 1 rfl rfl
theorem ts_2 : Cond.selects "TriedHarder" ⟨"TriedHarder", "findHalves", "()Z"⟩ ⟨"TriedHarder", "findHalves", "()Z"⟩ ∈ TT := TT_s 2 rfl rfl
theorem ts_3 : Cond.selects "TriedHarder" ⟨"TriedHarder", "missOfHalves", "(II)I"⟩ ⟨"TriedHarder", "missOfHalves", "(II)I"⟩ ∈ TT := TT_s 3 rfl rfl
theorem ts_4 : Cond.selects "TriedHarderModel" ⟨"TriedHarderModel", "isUnit", "(I)Z"⟩ ⟨"TriedHarderModel", "isUnit", "(I)Z"⟩ ∈ TT := TT_s 4 rfl rfl
theorem ts_5 : Cond.selects "TriedHarderModel" ⟨"TriedHarderModel", "useHour", "(I)I"⟩ ⟨"TriedHarderModel", "useHour", "(I)I"⟩ ∈ TT := TT_s 5 rfl rfl
theorem ts_6 : Cond.selects "TriedHarderModel" ⟨"TriedHarderModel", "isIn", "(II)Z"⟩ ⟨"TriedHarderModel", "isIn", "(II)Z"⟩ ∈ TT := TT_s 6 rfl rfl
theorem ts_7 : Cond.selects "TriedHarderModel" ⟨"TriedHarderModel", "riskAt", "(II)I"⟩ ⟨"TriedHarderModel", "riskAt", "(II)I"⟩ ∈ TT := TT_s 7 rfl rfl
theorem ts_8 : Cond.selects "TriedHarderModel" ⟨"TriedHarderModel", "lay", "(II)V"⟩ ⟨"TriedHarderModel", "lay", "(II)V"⟩ ∈ TT := TT_s 8 rfl rfl
theorem ts_9 : Cond.selects "TriedHarderModel" ⟨"TriedHarderModel", "failedAt", "(III)I"⟩ ⟨"TriedHarderModel", "failedAt", "(III)I"⟩ ∈ TT := TT_s 9 rfl rfl
theorem ts_10 : Cond.selects "TriedHarderModel" ⟨"TriedHarderModel", "findLeft", "(I)V"⟩ ⟨"TriedHarderModel", "findLeft", "(I)V"⟩ ∈ TT := TT_s 10 rfl rfl
theorem ts_11 : Cond.selects "TriedHarderModel" ⟨"TriedHarderModel", "goOn", "(I)V"⟩ ⟨"TriedHarderModel", "goOn", "(I)V"⟩ ∈ TT := TT_s 11 rfl rfl
theorem ts_12 : Cond.selects "TriedHarderModel" ⟨"TriedHarderModel", "timeOf", "(IIII)I"⟩ ⟨"TriedHarderModel", "timeOf", "(IIII)I"⟩ ∈ TT := TT_s 12 rfl rfl
theorem ts_13 : Cond.selects "TriedHarderModel" ⟨"TriedHarderModel", "findRest", "(II)V"⟩ ⟨"TriedHarderModel", "findRest", "(II)V"⟩ ∈ TT := TT_s 13 rfl rfl
theorem ts_14 : Cond.selects "TriedHarderModel" ⟨"TriedHarderModel", "add", "()V"⟩ ⟨"TriedHarderModel", "add", "()V"⟩ ∈ TT := TT_s 14 rfl rfl
theorem ts_15 : Cond.selects "TriedHarderModel" ⟨"TriedHarderModel", "isLeftAt", "(I)Z"⟩ ⟨"TriedHarderModel", "isLeftAt", "(I)Z"⟩ ∈ TT := TT_s 15 rfl rfl
theorem ts_16 : Cond.selects "TriedHarderModel" ⟨"TriedHarderModel", "findHalves", "()Z"⟩ ⟨"TriedHarderModel", "findHalves", "()Z"⟩ ∈ TT := TT_s 16 rfl rfl
theorem ts_17 : Cond.selects "TriedHarderModel" ⟨"TriedHarderModel", "missOf", "(II)I"⟩ ⟨"TriedHarderModel", "missOf", "(II)I"⟩ ∈ TT := TT_s 17 rfl rfl
theorem inT0 : ∀ w ∈ wsX00, w ∈ TT := by
  intro w hw
  obtain ⟨k, hk, rfl⟩ := List.mem_map.mp hw
  have hk2 := List.mem_range.mp hk
  match k, hk2 with
  | 0, _ => exact tw_48
  | 1, _ => exact tw_50
  | 2, _ => exact tw_52
  | k + 3, h => exact absurd h (by omega)
theorem inT1 : ∀ w ∈ wsX10, w ∈ TT := by
  intro w hw
  obtain ⟨k, hk, rfl⟩ := List.mem_map.mp hw
  have hk2 := List.mem_range.mp hk
  match k, hk2 with
  | 0, _ => exact tw_68
  | 1, _ => exact tw_70
  | 2, _ => exact tw_72
  | k + 3, h => exact absurd h (by omega)
theorem inT2 : ∀ w ∈ wsX20, w ∈ TT := by
  intro w hw
  obtain ⟨k, hk, rfl⟩ := List.mem_map.mp hw
  have hk2 := List.mem_range.mp hk
  match k, hk2 with
  | 0, _ => exact tw_29
  | 1, _ => exact tw_31
  | 2, _ => exact tw_33
  | 3, _ => exact tw_35
  | k + 4, h => exact absurd h (by omega)
theorem inT3 : ∀ w ∈ wsX30, w ∈ TT := by
  intro w hw
  obtain ⟨k, hk, rfl⟩ := List.mem_map.mp hw
  have hk2 := List.mem_range.mp hk
  match k, hk2 with
  | 0, _ => exact tw_82
  | 1, _ => exact tw_84
  | 2, _ => exact tw_86
  | 3, _ => exact tw_88
  | 4, _ => exact tw_90
  | 5, _ => exact tw_92
  | 6, _ => exact tw_94
  | k + 7, h => exact absurd h (by omega)
theorem inT4 : ∀ w ∈ wsX40, w ∈ TT := by
  intro w hw
  obtain ⟨k, hk, rfl⟩ := List.mem_map.mp hw
  have hk2 := List.mem_range.mp hk
  match k, hk2 with
  | 0, _ => exact tw_354
  | 1, _ => exact tw_356
  | 2, _ => exact tw_358
  | 3, _ => exact tw_360
  | 4, _ => exact tw_362
  | 5, _ => exact tw_364
  | 6, _ => exact tw_366
  | 7, _ => exact tw_368
  | 8, _ => exact tw_370
  | 9, _ => exact tw_372
  | 10, _ => exact tw_374
  | 11, _ => exact tw_376
  | 12, _ => exact tw_378
  | 13, _ => exact tw_380
  | 14, _ => exact tw_382
  | 15, _ => exact tw_384
  | 16, _ => exact tw_386
  | k + 17, h => exact absurd h (by omega)
