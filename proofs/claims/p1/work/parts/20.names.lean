/-! NAMES, laid by program (wip/gen/gen_names.py) out of the listing and the tables: words, classes, methods -/
def fm_T0 : List Cond := lw_tbl.filter goodWord
theorem fm_T0_good : ∀ w ∈ fm_T0, fm_gw w := fun w hw => good_of_word (List.mem_filter.mp hw).2
theorem fm_T0_in {w : Cond} (h : w ∈ tables_1) (g : goodWord w = true) : w ∈ fm_T0 := List.mem_filter.mpr ⟨List.mem_append_right _ h, g⟩
theorem fm_T0_1 {w : Cond} (i : Nat) (h : tables_1_1[i]? = some w) (g : goodWord w = true) : w ∈ fm_T0 := fm_T0_in (List.mem_append_left _ (List.mem_of_getElem? h)) g
theorem fm_T0_2 {w : Cond} (i : Nat) (h : tables_1_2[i]? = some w) (g : goodWord w = true) : w ∈ fm_T0 := fm_T0_in (List.mem_append_right _ (List.mem_append_left _ (List.mem_of_getElem? h))) g
theorem fm_T0_3 {w : Cond} (i : Nat) (h : tables_1_3[i]? = some w) (g : goodWord w = true) : w ∈ fm_T0 := fm_T0_in (List.mem_append_right _ (List.mem_append_right _ (List.mem_append_left _ (List.mem_of_getElem? h)))) g
theorem fm_T0_4 {w : Cond} (i : Nat) (h : tables_1_4[i]? = some w) (g : goodWord w = true) : w ∈ fm_T0 := fm_T0_in (List.mem_append_right _ (List.mem_append_right _ (List.mem_append_right _ (List.mem_append_left _ (List.mem_of_getElem? h))))) g
theorem fm_T0_5 {w : Cond} (i : Nat) (h : tables_1_5[i]? = some w) (g : goodWord w = true) : w ∈ fm_T0 := fm_T0_in (List.mem_append_right _ (List.mem_append_right _ (List.mem_append_right _ (List.mem_append_right _ (List.mem_append_left _ (List.mem_of_getElem? h)))))) g
theorem fm_T0_6 {w : Cond} (i : Nat) (h : tables_1_6[i]? = some w) (g : goodWord w = true) : w ∈ fm_T0 := fm_T0_in (List.mem_append_right _ (List.mem_append_right _ (List.mem_append_right _ (List.mem_append_right _ (List.mem_append_right _ (List.mem_of_getElem? h)))))) g
theorem q_0 : (Jvm.Cond.initialized "AgentNetLaw") ∈ fm_T0 := fm_T0_1 0 rfl rfl
theorem q_1 : (Jvm.Cond.initialized "AgentNet") ∈ fm_T0 := fm_T0_1 1 rfl rfl
theorem q_2 : (Jvm.Cond.initialized "AgentNet$Wire") ∈ fm_T0 := fm_T0_1 2 rfl rfl
theorem q_3 : (Jvm.Cond.initialized "AgentNet$Message") ∈ fm_T0 := fm_T0_1 3 rfl rfl
theorem q_4 : (Jvm.Cond.initialized "AgentNet$Processor") ∈ fm_T0 := fm_T0_1 4 rfl rfl
theorem q_5 : (Jvm.Cond.initialized "AgentNet$Numbering") ∈ fm_T0 := fm_T0_1 5 rfl rfl
theorem q_6 : (Jvm.Cond.initialized "AgentNet$Sayings") ∈ fm_T0 := fm_T0_1 6 rfl rfl
theorem q_7 : (Jvm.Cond.initialized "AgentNet$FreeRun") ∈ fm_T0 := fm_T0_1 7 rfl rfl
theorem q_8 : (Jvm.Cond.initialized "AgentNet$Traveller") ∈ fm_T0 := fm_T0_1 8 rfl rfl
theorem q_9 : (Jvm.Cond.initialized "AgentNet$Script") ∈ fm_T0 := fm_T0_1 9 rfl rfl
theorem q_10 : (Jvm.Cond.initialized "AgentNet$Site") ∈ fm_T0 := fm_T0_1 10 rfl rfl
theorem q_11 : (Jvm.Cond.initialized "AgentNet$Memory") ∈ fm_T0 := fm_T0_1 11 rfl rfl
theorem q_12 : (Jvm.Cond.initialized "java/util/Arrays") ∈ fm_T0 := fm_T0_1 12 rfl rfl
theorem q_13 : (Jvm.Cond.initialized "AgentNetModel") ∈ fm_T0 := fm_T0_1 13 rfl rfl
theorem q_14 : (Jvm.Cond.initialized "java/lang/Throwable") ∈ fm_T0 := fm_T0_1 14 rfl rfl
theorem q_15 : (Jvm.Cond.initialized "java/lang/Exception") ∈ fm_T0 := fm_T0_1 15 rfl rfl
theorem q_16 : (Jvm.Cond.initialized "java/lang/RuntimeException") ∈ fm_T0 := fm_T0_1 16 rfl rfl
theorem q_17 : (Jvm.Cond.initialized "java/lang/IllegalArgumentException") ∈ fm_T0 := fm_T0_1 17 rfl rfl
theorem q_18 : (Jvm.Cond.initialized "java/lang/IllegalStateException") ∈ fm_T0 := fm_T0_1 18 rfl rfl
theorem q_19 : (Jvm.Cond.initialized "java/lang/Math") ∈ fm_T0 := fm_T0_1 19 rfl rfl
theorem q_20 : (Jvm.Cond.initialized "java/lang/System") ∈ fm_T0 := fm_T0_1 20 rfl rfl
theorem q_21 : (Jvm.Cond.initialized "java/lang/IndexOutOfBoundsException") ∈ fm_T0 := fm_T0_1 21 rfl rfl
theorem q_22 : (Jvm.Cond.initialized "java/lang/Integer") ∈ fm_T0 := fm_T0_1 22 rfl rfl
theorem q_23 : (Jvm.Cond.classLink "AgentNetLaw" (8 : Nat) "AgentNet") ∈ fm_T0 := fm_T0_1 23 rfl rfl
theorem q_24 : (Jvm.Cond.instantiable "AgentNet" (8 : Nat)) ∈ fm_T0 := fm_T0_1 24 rfl rfl
theorem q_25 : (Jvm.Cond.methodLink "AgentNetLaw" (43 : Nat) ({ cls := "AgentNet", name := "<init>", desc := "()V" } : Jvm.MethodName)) ∈ fm_T0 := fm_T0_1 25 rfl rfl
theorem q_26 : (Jvm.Cond.instanceMethod ({ cls := "AgentNet", name := "<init>", desc := "()V" } : Jvm.MethodName)) ∈ fm_T0 := fm_T0_1 26 rfl rfl
theorem q_27 : (Jvm.Cond.code ({ cls := "AgentNet", name := "<init>", desc := "()V" } : Jvm.MethodName) prog_1_method_1_code (2 : Nat) (Option.none : Option Jvm.ClassFile.FieldType)) ∈ fm_T0 := fm_T0_1 27 rfl rfl
theorem q_28 : (Jvm.Cond.methodLink "AgentNet" (3 : Nat) ({ cls := "java/lang/Object", name := "<init>", desc := "()V" } : Jvm.MethodName)) ∈ fm_T0 := fm_T0_1 28 rfl rfl
theorem q_29 : (Jvm.Cond.instanceMethod ({ cls := "java/lang/Object", name := "<init>", desc := "()V" } : Jvm.MethodName)) ∈ fm_T0 := fm_T0_1 29 rfl rfl
theorem q_30 : (Jvm.Cond.code ({ cls := "java/lang/Object", name := "<init>", desc := "()V" } : Jvm.MethodName) object_method_1_code (1 : Nat) (Option.none : Option Jvm.ClassFile.FieldType)) ∈ fm_T0 := fm_T0_1 30 rfl rfl
theorem q_31 : (Jvm.Cond.classLink "AgentNet" (9 : Nat) "AgentNet$Script") ∈ fm_T0 := fm_T0_1 31 rfl rfl
theorem q_33 : (Jvm.Cond.classLink "AgentNet" (15 : Nat) "[[I") ∈ fm_T0 := fm_T0_1 33 rfl rfl
theorem q_35 : (Jvm.Cond.classLink "AgentNet" (20 : Nat) "AgentNet$Site") ∈ fm_T0 := fm_T0_1 35 rfl rfl
theorem q_37 : (Jvm.Cond.classLink "AgentNet" (26 : Nat) "AgentNet$Wire") ∈ fm_T0 := fm_T0_1 37 rfl rfl
theorem q_38 : (Jvm.Cond.instantiable "AgentNet$Wire" (3 : Nat)) ∈ fm_T0 := fm_T0_1 38 rfl rfl
theorem q_39 : (Jvm.Cond.methodLink "AgentNet" (28 : Nat) ({ cls := "AgentNet$Wire", name := "<init>", desc := "()V" } : Jvm.MethodName)) ∈ fm_T0 := fm_T0_1 39 rfl rfl
theorem q_40 : (Jvm.Cond.instanceMethod ({ cls := "AgentNet$Wire", name := "<init>", desc := "()V" } : Jvm.MethodName)) ∈ fm_T0 := fm_T0_1 40 rfl rfl
theorem q_41 : (Jvm.Cond.code ({ cls := "AgentNet$Wire", name := "<init>", desc := "()V" } : Jvm.MethodName) prog_11_method_1_code (2 : Nat) (Option.none : Option Jvm.ClassFile.FieldType)) ∈ fm_T0 := fm_T0_1 41 rfl rfl
theorem q_42 : (Jvm.Cond.methodLink "AgentNet$Wire" (3 : Nat) ({ cls := "java/lang/Object", name := "<init>", desc := "()V" } : Jvm.MethodName)) ∈ fm_T0 := fm_T0_1 42 rfl rfl
theorem q_43 : (Jvm.Cond.classLink "AgentNet$Wire" (9 : Nat) "AgentNet$Message") ∈ fm_T0 := fm_T0_1 43 rfl rfl
theorem q_45 : (Jvm.Cond.instantiable "AgentNet$Message" (8 : Nat)) ∈ fm_T0 := fm_T0_1 45 rfl rfl
theorem q_47 : (Jvm.Cond.instanceMethod ({ cls := "AgentNet$Message", name := "<init>", desc := "()V" } : Jvm.MethodName)) ∈ fm_T0 := fm_T0_1 47 rfl rfl
theorem q_48 : (Jvm.Cond.code ({ cls := "AgentNet$Message", name := "<init>", desc := "()V" } : Jvm.MethodName) prog_4_method_1_code (1 : Nat) (Option.none : Option Jvm.ClassFile.FieldType)) ∈ fm_T0 := fm_T0_1 48 rfl rfl
theorem q_49 : (Jvm.Cond.methodLink "AgentNet$Message" (3 : Nat) ({ cls := "java/lang/Object", name := "<init>", desc := "()V" } : Jvm.MethodName)) ∈ fm_T0 := fm_T0_1 49 rfl rfl
theorem q_50 : (Jvm.Cond.fieldLink "AgentNet$Message" (9 : Nat) "AgentNet$Message" "isArrival" "Z") ∈ fm_T0 := fm_T0_1 50 rfl rfl
theorem q_51 : (Jvm.Cond.fieldLink "AgentNet$Site" (92 : Nat) "AgentNet$Message" "isArrival" "Z") ∈ fm_T0 := fm_T0_1 51 rfl rfl
theorem q_52 : (Jvm.Cond.fieldLink "AgentNet$Message" (15 : Nat) "AgentNet$Message" "number" "I") ∈ fm_T0 := fm_T0_1 52 rfl rfl
theorem q_53 : (Jvm.Cond.fieldLink "AgentNet$Site" (89 : Nat) "AgentNet$Message" "number" "I") ∈ fm_T0 := fm_T0_1 53 rfl rfl
theorem q_54 : (Jvm.Cond.fieldLink "AgentNet$Message" (19 : Nat) "AgentNet$Message" "hops" "I") ∈ fm_T0 := fm_T0_1 54 rfl rfl
theorem q_55 : (Jvm.Cond.fieldLink "AgentNet$Site" (95 : Nat) "AgentNet$Message" "hops" "I") ∈ fm_T0 := fm_T0_1 55 rfl rfl
theorem q_56 : (Jvm.Cond.fieldLink "AgentNet$Message" (22 : Nat) "AgentNet$Message" "from" "I") ∈ fm_T0 := fm_T0_1 56 rfl rfl
theorem q_57 : (Jvm.Cond.fieldLink "AgentNet$Site" (104 : Nat) "AgentNet$Message" "from" "I") ∈ fm_T0 := fm_T0_1 57 rfl rfl
theorem q_58 : (Jvm.Cond.fieldLink "AgentNet$Message" (25 : Nat) "AgentNet$Message" "to" "I") ∈ fm_T0 := fm_T0_1 58 rfl rfl
theorem q_59 : (Jvm.Cond.fieldLink "AgentNet" (161 : Nat) "AgentNet$Message" "to" "I") ∈ fm_T0 := fm_T0_1 59 rfl rfl
theorem q_60 : (Jvm.Cond.fieldLink "AgentNet$Message" (28 : Nat) "AgentNet$Message" "length" "I") ∈ fm_T0 := fm_T0_1 60 rfl rfl
theorem q_61 : (Jvm.Cond.fieldLink "AgentNet$Message" (31 : Nat) "AgentNet$Message" "cursor" "I") ∈ fm_T0 := fm_T0_1 61 rfl rfl
theorem q_62 : (Jvm.Cond.fieldLink "AgentNet$Message" (34 : Nat) "AgentNet$Message" "image" "[B") ∈ fm_T0 := fm_T0_1 62 rfl rfl
theorem q_63 : (Jvm.Cond.lays "AgentNet$Message" "AgentNet$Message" "isArrival" "Z") ∈ fm_T0 := fm_T0_1 63 rfl rfl
theorem q_65 : (Jvm.Cond.lays "AgentNet$Message" "AgentNet$Message" "number" "I") ∈ fm_T0 := fm_T0_1 65 rfl rfl
theorem q_67 : (Jvm.Cond.lays "AgentNet$Message" "AgentNet$Message" "hops" "I") ∈ fm_T0 := fm_T0_1 67 rfl rfl
theorem q_69 : (Jvm.Cond.lays "AgentNet$Message" "AgentNet$Message" "from" "I") ∈ fm_T0 := fm_T0_1 69 rfl rfl
theorem q_71 : (Jvm.Cond.lays "AgentNet$Message" "AgentNet$Message" "to" "I") ∈ fm_T0 := fm_T0_1 71 rfl rfl
theorem q_73 : (Jvm.Cond.lays "AgentNet$Message" "AgentNet$Message" "length" "I") ∈ fm_T0 := fm_T0_1 73 rfl rfl
theorem q_75 : (Jvm.Cond.lays "AgentNet$Message" "AgentNet$Message" "cursor" "I") ∈ fm_T0 := fm_T0_1 75 rfl rfl
theorem q_77 : (Jvm.Cond.laysFinal "AgentNet$Message" "AgentNet$Message" "image" "[B") ∈ fm_T0 := fm_T0_1 77 rfl rfl
theorem q_80 : (Jvm.Cond.arrayClass Jvm.ClassFile.FieldType.int) ∈ fm_T0 := fm_T0_1 80 rfl rfl
theorem q_81 : (Jvm.Cond.arrayClass Jvm.ClassFile.FieldType.byte) ∈ fm_T0 := fm_T0_1 81 rfl rfl
theorem q_82 : (Jvm.Cond.fieldLink "AgentNet$Wire" (11 : Nat) "AgentNet$Wire" "row" "[LAgentNet$Message;") ∈ fm_T0 := fm_T0_1 82 rfl rfl
theorem q_83 : (Jvm.Cond.fieldLink "AgentNet" (170 : Nat) "AgentNet$Wire" "row" "[LAgentNet$Message;") ∈ fm_T0 := fm_T0_1 83 rfl rfl
theorem q_84 : (Jvm.Cond.fieldLink "AgentNet$Wire" (17 : Nat) "AgentNet$Wire" "count" "I") ∈ fm_T0 := fm_T0_1 84 rfl rfl
theorem q_85 : (Jvm.Cond.fieldLink "AgentNet" (118 : Nat) "AgentNet$Wire" "count" "I") ∈ fm_T0 := fm_T0_1 85 rfl rfl
theorem q_86 : (Jvm.Cond.fieldLink "AgentNet$Wire" (22 : Nat) "AgentNet$Wire" "spare" "LAgentNet$Message;") ∈ fm_T0 := fm_T0_1 86 rfl rfl
theorem q_87 : (Jvm.Cond.laysFinal "AgentNet$Wire" "AgentNet$Wire" "row" "[LAgentNet$Message;") ∈ fm_T0 := fm_T0_1 87 rfl rfl
theorem q_89 : (Jvm.Cond.lays "AgentNet$Wire" "AgentNet$Wire" "count" "I") ∈ fm_T0 := fm_T0_1 89 rfl rfl
theorem q_91 : (Jvm.Cond.lays "AgentNet$Wire" "AgentNet$Wire" "spare" "LAgentNet$Message;") ∈ fm_T0 := fm_T0_1 91 rfl rfl
theorem q_94 : (Jvm.Cond.classLink "AgentNet" (33 : Nat) "AgentNet$Processor") ∈ fm_T0 := fm_T0_1 94 rfl rfl
theorem q_95 : (Jvm.Cond.instantiable "AgentNet$Processor" (6 : Nat)) ∈ fm_T0 := fm_T0_1 95 rfl rfl
theorem q_97 : (Jvm.Cond.instanceMethod ({ cls := "AgentNet$Processor", name := "<init>", desc := "()V" } : Jvm.MethodName)) ∈ fm_T0 := fm_T0_1 97 rfl rfl
theorem q_98 : (Jvm.Cond.code ({ cls := "AgentNet$Processor", name := "<init>", desc := "()V" } : Jvm.MethodName) prog_6_method_1_code (1 : Nat) (Option.none : Option Jvm.ClassFile.FieldType)) ∈ fm_T0 := fm_T0_1 98 rfl rfl
theorem q_99 : (Jvm.Cond.methodLink "AgentNet$Processor" (3 : Nat) ({ cls := "java/lang/Object", name := "<init>", desc := "()V" } : Jvm.MethodName)) ∈ fm_T0 := fm_T0_1 99 rfl rfl
theorem q_100 : (Jvm.Cond.classLink "AgentNet$Processor" (9 : Nat) "AgentNet$Numbering") ∈ fm_T0 := fm_T0_1 100 rfl rfl
theorem q_101 : (Jvm.Cond.instantiable "AgentNet$Numbering" (5 : Nat)) ∈ fm_T0 := fm_T0_1 101 rfl rfl
theorem q_103 : (Jvm.Cond.instanceMethod ({ cls := "AgentNet$Numbering", name := "<init>", desc := "()V" } : Jvm.MethodName)) ∈ fm_T0 := fm_T0_1 103 rfl rfl
theorem q_104 : (Jvm.Cond.code ({ cls := "AgentNet$Numbering", name := "<init>", desc := "()V" } : Jvm.MethodName) prog_5_method_1_code (1 : Nat) (Option.none : Option Jvm.ClassFile.FieldType)) ∈ fm_T0 := fm_T0_1 104 rfl rfl
theorem q_105 : (Jvm.Cond.methodLink "AgentNet$Numbering" (3 : Nat) ({ cls := "java/lang/Object", name := "<init>", desc := "()V" } : Jvm.MethodName)) ∈ fm_T0 := fm_T0_1 105 rfl rfl
theorem q_106 : (Jvm.Cond.fieldLink "AgentNet$Numbering" (9 : Nat) "AgentNet$Numbering" "newNumbers" "[I") ∈ fm_T0 := fm_T0_1 106 rfl rfl
theorem q_107 : (Jvm.Cond.fieldLink "AgentNet$Numbering" (15 : Nat) "AgentNet$Numbering" "oldNumbers" "[I") ∈ fm_T0 := fm_T0_1 107 rfl rfl
theorem q_108 : (Jvm.Cond.fieldLink "AgentNet$Numbering" (18 : Nat) "AgentNet$Numbering" "firsts" "[J") ∈ fm_T0 := fm_T0_1 108 rfl rfl
theorem q_109 : (Jvm.Cond.fieldLink "AgentNet$Numbering" (22 : Nat) "AgentNet$Numbering" "seconds" "[J") ∈ fm_T0 := fm_T0_1 109 rfl rfl
theorem q_110 : (Jvm.Cond.fieldLink "AgentNet$Numbering" (25 : Nat) "AgentNet$Numbering" "count" "I") ∈ fm_T0 := fm_T0_1 110 rfl rfl
theorem q_111 : (Jvm.Cond.laysFinal "AgentNet$Numbering" "AgentNet$Numbering" "newNumbers" "[I") ∈ fm_T0 := fm_T0_1 111 rfl rfl
theorem q_113 : (Jvm.Cond.laysFinal "AgentNet$Numbering" "AgentNet$Numbering" "oldNumbers" "[I") ∈ fm_T0 := fm_T0_1 113 rfl rfl
theorem q_115 : (Jvm.Cond.laysFinal "AgentNet$Numbering" "AgentNet$Numbering" "firsts" "[J") ∈ fm_T0 := fm_T0_1 115 rfl rfl
theorem q_117 : (Jvm.Cond.laysFinal "AgentNet$Numbering" "AgentNet$Numbering" "seconds" "[J") ∈ fm_T0 := fm_T0_1 117 rfl rfl
theorem q_119 : (Jvm.Cond.lays "AgentNet$Numbering" "AgentNet$Numbering" "count" "I") ∈ fm_T0 := fm_T0_1 119 rfl rfl
theorem q_122 : (Jvm.Cond.arrayClass Jvm.ClassFile.FieldType.long) ∈ fm_T0 := fm_T0_1 122 rfl rfl
theorem q_123 : (Jvm.Cond.fieldLink "AgentNet$Processor" (12 : Nat) "AgentNet$Processor" "numbering" "LAgentNet$Numbering;") ∈ fm_T0 := fm_T0_1 123 rfl rfl
theorem q_124 : (Jvm.Cond.fieldLink "AgentNet$Processor" (18 : Nat) "AgentNet$Processor" "code" "I") ∈ fm_T0 := fm_T0_1 124 rfl rfl
theorem q_125 : (Jvm.Cond.fieldLink "AgentNet$Processor" (22 : Nat) "AgentNet$Processor" "x" "I") ∈ fm_T0 := fm_T0_1 125 rfl rfl
theorem q_126 : (Jvm.Cond.fieldLink "AgentNet$Processor" (25 : Nat) "AgentNet$Processor" "lower" "J") ∈ fm_T0 := fm_T0_1 126 rfl rfl
theorem q_127 : (Jvm.Cond.fieldLink "AgentNet$Processor" (29 : Nat) "AgentNet$Processor" "upper" "J") ∈ fm_T0 := fm_T0_1 127 rfl rfl
theorem q_128 : (Jvm.Cond.fieldLink "AgentNet$Processor" (32 : Nat) "AgentNet$Processor" "asked" "I") ∈ fm_T0 := fm_T0_1 128 rfl rfl
theorem q_129 : (Jvm.Cond.fieldLink "AgentNet$FreeRun" (66 : Nat) "AgentNet$Processor" "asked" "I") ∈ fm_T0 := fm_T0_1 129 rfl rfl
theorem q_130 : (Jvm.Cond.fieldLink "AgentNet" (224 : Nat) "AgentNet$Processor" "asked" "I") ∈ fm_T0 := fm_T0_1 130 rfl rfl
theorem q_131 : (Jvm.Cond.laysFinal "AgentNet$Processor" "AgentNet$Processor" "numbering" "LAgentNet$Numbering;") ∈ fm_T0 := fm_T0_1 131 rfl rfl
theorem q_133 : (Jvm.Cond.lays "AgentNet$Processor" "AgentNet$Processor" "code" "I") ∈ fm_T0 := fm_T0_1 133 rfl rfl
theorem q_135 : (Jvm.Cond.lays "AgentNet$Processor" "AgentNet$Processor" "x" "I") ∈ fm_T0 := fm_T0_1 135 rfl rfl
theorem q_137 : (Jvm.Cond.lays "AgentNet$Processor" "AgentNet$Processor" "lower" "J") ∈ fm_T0 := fm_T0_1 137 rfl rfl
theorem q_139 : (Jvm.Cond.lays "AgentNet$Processor" "AgentNet$Processor" "upper" "J") ∈ fm_T0 := fm_T0_1 139 rfl rfl
theorem q_141 : (Jvm.Cond.lays "AgentNet$Processor" "AgentNet$Processor" "asked" "I") ∈ fm_T0 := fm_T0_1 141 rfl rfl
theorem q_144 : (Jvm.Cond.classLink "AgentNet" (40 : Nat) "AgentNet$Sayings") ∈ fm_T0 := fm_T0_1 144 rfl rfl
theorem q_145 : (Jvm.Cond.instantiable "AgentNet$Sayings" (2 : Nat)) ∈ fm_T0 := fm_T0_1 145 rfl rfl
theorem q_147 : (Jvm.Cond.instanceMethod ({ cls := "AgentNet$Sayings", name := "<init>", desc := "()V" } : Jvm.MethodName)) ∈ fm_T0 := fm_T0_1 147 rfl rfl
theorem q_148 : (Jvm.Cond.code ({ cls := "AgentNet$Sayings", name := "<init>", desc := "()V" } : Jvm.MethodName) prog_7_method_1_code (1 : Nat) (Option.none : Option Jvm.ClassFile.FieldType)) ∈ fm_T0 := fm_T0_1 148 rfl rfl
theorem q_149 : (Jvm.Cond.methodLink "AgentNet$Sayings" (3 : Nat) ({ cls := "java/lang/Object", name := "<init>", desc := "()V" } : Jvm.MethodName)) ∈ fm_T0 := fm_T0_1 149 rfl rfl
theorem q_150 : (Jvm.Cond.fieldLink "AgentNet$Sayings" (9 : Nat) "AgentNet$Sayings" "here" "[I") ∈ fm_T0 := fm_T0_1 150 rfl rfl
theorem q_151 : (Jvm.Cond.fieldLink "AgentNet$Sayings" (15 : Nat) "AgentNet$Sayings" "values" "[I") ∈ fm_T0 := fm_T0_1 151 rfl rfl
theorem q_152 : (Jvm.Cond.laysFinal "AgentNet$Sayings" "AgentNet$Sayings" "here" "[I") ∈ fm_T0 := fm_T0_1 152 rfl rfl
theorem q_154 : (Jvm.Cond.laysFinal "AgentNet$Sayings" "AgentNet$Sayings" "values" "[I") ∈ fm_T0 := fm_T0_1 154 rfl rfl
theorem q_157 : (Jvm.Cond.classLink "AgentNet" (47 : Nat) "AgentNet$FreeRun") ∈ fm_T0 := fm_T0_1 157 rfl rfl
theorem q_158 : (Jvm.Cond.instantiable "AgentNet$FreeRun" (5 : Nat)) ∈ fm_T0 := fm_T0_1 158 rfl rfl
theorem q_160 : (Jvm.Cond.instanceMethod ({ cls := "AgentNet$FreeRun", name := "<init>", desc := "()V" } : Jvm.MethodName)) ∈ fm_T0 := fm_T0_1 160 rfl rfl
theorem q_161 : (Jvm.Cond.code ({ cls := "AgentNet$FreeRun", name := "<init>", desc := "()V" } : Jvm.MethodName) prog_2_method_1_code (1 : Nat) (Option.none : Option Jvm.ClassFile.FieldType)) ∈ fm_T0 := fm_T0_1 161 rfl rfl
theorem q_162 : (Jvm.Cond.methodLink "AgentNet$FreeRun" (3 : Nat) ({ cls := "java/lang/Object", name := "<init>", desc := "()V" } : Jvm.MethodName)) ∈ fm_T0 := fm_T0_1 162 rfl rfl
theorem q_163 : (Jvm.Cond.classLink "AgentNet$FreeRun" (9 : Nat) "AgentNet$Sayings") ∈ fm_T0 := fm_T0_1 163 rfl rfl
theorem q_165 : (Jvm.Cond.classLink "AgentNet$FreeRun" (22 : Nat) "AgentNet$Traveller") ∈ fm_T0 := fm_T0_1 165 rfl rfl
theorem q_166 : (Jvm.Cond.instantiable "AgentNet$Traveller" (13 : Nat)) ∈ fm_T0 := fm_T0_1 166 rfl rfl
theorem q_168 : (Jvm.Cond.instanceMethod ({ cls := "AgentNet$Traveller", name := "<init>", desc := "()V" } : Jvm.MethodName)) ∈ fm_T0 := fm_T0_1 168 rfl rfl
theorem q_169 : (Jvm.Cond.code ({ cls := "AgentNet$Traveller", name := "<init>", desc := "()V" } : Jvm.MethodName) prog_10_method_1_code (1 : Nat) (Option.none : Option Jvm.ClassFile.FieldType)) ∈ fm_T0 := fm_T0_1 169 rfl rfl
theorem q_170 : (Jvm.Cond.methodLink "AgentNet$Traveller" (3 : Nat) ({ cls := "java/lang/Object", name := "<init>", desc := "()V" } : Jvm.MethodName)) ∈ fm_T0 := fm_T0_1 170 rfl rfl
theorem q_171 : (Jvm.Cond.fieldLink "AgentNet$Traveller" (9 : Nat) "AgentNet$Traveller" "number" "I") ∈ fm_T0 := fm_T0_1 171 rfl rfl
theorem q_172 : (Jvm.Cond.fieldLink "AgentNet$FreeRun" (51 : Nat) "AgentNet$Traveller" "number" "I") ∈ fm_T0 := fm_T0_1 172 rfl rfl
theorem q_173 : (Jvm.Cond.fieldLink "AgentNet$Message" (48 : Nat) "AgentNet$Traveller" "number" "I") ∈ fm_T0 := fm_T0_1 173 rfl rfl
theorem q_174 : (Jvm.Cond.fieldLink "AgentNet$Wire" (30 : Nat) "AgentNet$Traveller" "number" "I") ∈ fm_T0 := fm_T0_1 174 rfl rfl
theorem q_175 : (Jvm.Cond.fieldLink "AgentNet$Processor" (145 : Nat) "AgentNet$Traveller" "number" "I") ∈ fm_T0 := fm_T0_1 175 rfl rfl
theorem q_176 : (Jvm.Cond.fieldLink "AgentNet$Traveller" (15 : Nat) "AgentNet$Traveller" "script" "I") ∈ fm_T0 := fm_T0_1 176 rfl rfl
theorem q_177 : (Jvm.Cond.fieldLink "AgentNet$FreeRun" (40 : Nat) "AgentNet$Traveller" "script" "I") ∈ fm_T0 := fm_T0_1 177 rfl rfl
theorem q_178 : (Jvm.Cond.fieldLink "AgentNet$Message" (55 : Nat) "AgentNet$Traveller" "script" "I") ∈ fm_T0 := fm_T0_1 178 rfl rfl
theorem q_179 : (Jvm.Cond.fieldLink "AgentNet" (217 : Nat) "AgentNet$Traveller" "script" "I") ∈ fm_T0 := fm_T0_1 179 rfl rfl
theorem q_180 : (Jvm.Cond.fieldLink "AgentNet$Traveller" (18 : Nat) "AgentNet$Traveller" "place" "I") ∈ fm_T0 := fm_T0_1 180 rfl rfl
theorem q_181 : (Jvm.Cond.fieldLink "AgentNet$Processor" (51 : Nat) "AgentNet$Traveller" "place" "I") ∈ fm_T0 := fm_T0_1 181 rfl rfl
theorem q_182 : (Jvm.Cond.fieldLink "AgentNet$Message" (58 : Nat) "AgentNet$Traveller" "place" "I") ∈ fm_T0 := fm_T0_1 182 rfl rfl
theorem q_183 : (Jvm.Cond.fieldLink "AgentNet$Traveller" (21 : Nat) "AgentNet$Traveller" "fuel" "I") ∈ fm_T0 := fm_T0_1 183 rfl rfl
theorem q_184 : (Jvm.Cond.fieldLink "AgentNet$Processor" (35 : Nat) "AgentNet$Traveller" "fuel" "I") ∈ fm_T0 := fm_T0_1 184 rfl rfl
theorem q_185 : (Jvm.Cond.fieldLink "AgentNet$FreeRun" (54 : Nat) "AgentNet$Traveller" "fuel" "I") ∈ fm_T0 := fm_T0_1 185 rfl rfl
theorem q_186 : (Jvm.Cond.fieldLink "AgentNet$Message" (71 : Nat) "AgentNet$Traveller" "fuel" "I") ∈ fm_T0 := fm_T0_1 186 rfl rfl
theorem q_187 : (Jvm.Cond.fieldLink "AgentNet" (211 : Nat) "AgentNet$Traveller" "fuel" "I") ∈ fm_T0 := fm_T0_1 187 rfl rfl
theorem q_188 : (Jvm.Cond.fieldLink "AgentNet$Traveller" (24 : Nat) "AgentNet$Traveller" "hops" "I") ∈ fm_T0 := fm_T0_1 188 rfl rfl
theorem q_189 : (Jvm.Cond.fieldLink "AgentNet$Wire" (35 : Nat) "AgentNet$Traveller" "hops" "I") ∈ fm_T0 := fm_T0_1 189 rfl rfl
theorem q_190 : (Jvm.Cond.fieldLink "AgentNet$Message" (61 : Nat) "AgentNet$Traveller" "hops" "I") ∈ fm_T0 := fm_T0_1 190 rfl rfl
theorem q_191 : (Jvm.Cond.fieldLink "AgentNet$Site" (73 : Nat) "AgentNet$Traveller" "hops" "I") ∈ fm_T0 := fm_T0_1 191 rfl rfl
theorem q_192 : (Jvm.Cond.fieldLink "AgentNet$Memory" (79 : Nat) "AgentNet$Traveller" "hops" "I") ∈ fm_T0 := fm_T0_1 192 rfl rfl
theorem q_193 : (Jvm.Cond.fieldLink "AgentNet$Processor" (142 : Nat) "AgentNet$Traveller" "hops" "I") ∈ fm_T0 := fm_T0_1 193 rfl rfl
theorem q_194 : (Jvm.Cond.fieldLink "AgentNet$Traveller" (27 : Nat) "AgentNet$Traveller" "said" "I") ∈ fm_T0 := fm_T0_1 194 rfl rfl
theorem q_195 : (Jvm.Cond.fieldLink "AgentNet$FreeRun" (63 : Nat) "AgentNet$Traveller" "said" "I") ∈ fm_T0 := fm_T0_1 195 rfl rfl
theorem q_196 : (Jvm.Cond.fieldLink "AgentNet$Message" (62 : Nat) "AgentNet$Traveller" "said" "I") ∈ fm_T0 := fm_T0_1 196 rfl rfl
theorem q_197 : (Jvm.Cond.fieldLink "AgentNet$Memory" (63 : Nat) "AgentNet$Traveller" "said" "I") ∈ fm_T0 := fm_T0_1 197 rfl rfl
theorem q_198 : (Jvm.Cond.fieldLink "AgentNet$Processor" (103 : Nat) "AgentNet$Traveller" "said" "I") ∈ fm_T0 := fm_T0_1 198 rfl rfl
theorem q_199 : (Jvm.Cond.fieldLink "AgentNet$Traveller" (30 : Nat) "AgentNet$Traveller" "wait" "I") ∈ fm_T0 := fm_T0_1 199 rfl rfl
theorem q_200 : (Jvm.Cond.fieldLink "AgentNet$Message" (65 : Nat) "AgentNet$Traveller" "wait" "I") ∈ fm_T0 := fm_T0_1 200 rfl rfl
theorem q_201 : (Jvm.Cond.fieldLink "AgentNet$Processor" (127 : Nat) "AgentNet$Traveller" "wait" "I") ∈ fm_T0 := fm_T0_1 201 rfl rfl
theorem q_202 : (Jvm.Cond.fieldLink "AgentNet$Memory" (82 : Nat) "AgentNet$Traveller" "wait" "I") ∈ fm_T0 := fm_T0_1 202 rfl rfl
theorem q_203 : (Jvm.Cond.fieldLink "AgentNet" (214 : Nat) "AgentNet$Traveller" "wait" "I") ∈ fm_T0 := fm_T0_1 203 rfl rfl
theorem q_204 : (Jvm.Cond.fieldLink "AgentNet$Traveller" (33 : Nat) "AgentNet$Traveller" "cloned" "Z") ∈ fm_T0 := fm_T0_1 204 rfl rfl
theorem q_205 : (Jvm.Cond.fieldLink "AgentNet$FreeRun" (47 : Nat) "AgentNet$Traveller" "cloned" "Z") ∈ fm_T0 := fm_T0_1 205 rfl rfl
theorem q_206 : (Jvm.Cond.fieldLink "AgentNet$Message" (68 : Nat) "AgentNet$Traveller" "cloned" "Z") ∈ fm_T0 := fm_T0_1 206 rfl rfl
theorem q_207 : (Jvm.Cond.fieldLink "AgentNet$Processor" (148 : Nat) "AgentNet$Traveller" "cloned" "Z") ∈ fm_T0 := fm_T0_1 207 rfl rfl
theorem q_208 : (Jvm.Cond.fieldLink "AgentNet$Traveller" (37 : Nat) "AgentNet$Traveller" "depth" "I") ∈ fm_T0 := fm_T0_1 208 rfl rfl
theorem q_209 : (Jvm.Cond.fieldLink "AgentNet$Numbering" (40 : Nat) "AgentNet$Traveller" "depth" "I") ∈ fm_T0 := fm_T0_1 209 rfl rfl
theorem q_210 : (Jvm.Cond.fieldLink "AgentNet$Processor" (58 : Nat) "AgentNet$Traveller" "depth" "I") ∈ fm_T0 := fm_T0_1 210 rfl rfl
theorem q_211 : (Jvm.Cond.fieldLink "AgentNet$Message" (74 : Nat) "AgentNet$Traveller" "depth" "I") ∈ fm_T0 := fm_T0_1 211 rfl rfl
theorem q_212 : (Jvm.Cond.fieldLink "AgentNet$Traveller" (40 : Nat) "AgentNet$Traveller" "pairs" "I") ∈ fm_T0 := fm_T0_1 212 rfl rfl
theorem q_213 : (Jvm.Cond.fieldLink "AgentNet$Numbering" (29 : Nat) "AgentNet$Traveller" "pairs" "I") ∈ fm_T0 := fm_T0_1 213 rfl rfl
theorem q_214 : (Jvm.Cond.fieldLink "AgentNet$Message" (85 : Nat) "AgentNet$Traveller" "pairs" "I") ∈ fm_T0 := fm_T0_1 214 rfl rfl
theorem q_215 : (Jvm.Cond.fieldLink "AgentNet$Processor" (110 : Nat) "AgentNet$Traveller" "pairs" "I") ∈ fm_T0 := fm_T0_1 215 rfl rfl
theorem q_216 : (Jvm.Cond.fieldLink "AgentNet$Traveller" (43 : Nat) "AgentNet$Traveller" "stack" "[J") ∈ fm_T0 := fm_T0_1 216 rfl rfl
theorem q_217 : (Jvm.Cond.fieldLink "AgentNet$Numbering" (43 : Nat) "AgentNet$Traveller" "stack" "[J") ∈ fm_T0 := fm_T0_1 217 rfl rfl
theorem q_218 : (Jvm.Cond.fieldLink "AgentNet$Processor" (85 : Nat) "AgentNet$Traveller" "stack" "[J") ∈ fm_T0 := fm_T0_1 218 rfl rfl
theorem q_219 : (Jvm.Cond.fieldLink "AgentNet$Message" (77 : Nat) "AgentNet$Traveller" "stack" "[J") ∈ fm_T0 := fm_T0_1 219 rfl rfl
theorem q_220 : (Jvm.Cond.fieldLink "AgentNet$Traveller" (47 : Nat) "AgentNet$Traveller" "firsts" "[J") ∈ fm_T0 := fm_T0_1 220 rfl rfl
theorem q_221 : (Jvm.Cond.fieldLink "AgentNet$Numbering" (50 : Nat) "AgentNet$Traveller" "firsts" "[J") ∈ fm_T0 := fm_T0_1 221 rfl rfl
theorem q_222 : (Jvm.Cond.fieldLink "AgentNet$Message" (88 : Nat) "AgentNet$Traveller" "firsts" "[J") ∈ fm_T0 := fm_T0_1 222 rfl rfl
theorem q_223 : (Jvm.Cond.fieldLink "AgentNet$Processor" (136 : Nat) "AgentNet$Traveller" "firsts" "[J") ∈ fm_T0 := fm_T0_1 223 rfl rfl
theorem q_224 : (Jvm.Cond.fieldLink "AgentNet$Traveller" (50 : Nat) "AgentNet$Traveller" "seconds" "[J") ∈ fm_T0 := fm_T0_1 224 rfl rfl
theorem q_225 : (Jvm.Cond.fieldLink "AgentNet$Numbering" (51 : Nat) "AgentNet$Traveller" "seconds" "[J") ∈ fm_T0 := fm_T0_1 225 rfl rfl
theorem q_226 : (Jvm.Cond.fieldLink "AgentNet$Message" (91 : Nat) "AgentNet$Traveller" "seconds" "[J") ∈ fm_T0 := fm_T0_1 226 rfl rfl
theorem q_227 : (Jvm.Cond.fieldLink "AgentNet$Processor" (139 : Nat) "AgentNet$Traveller" "seconds" "[J") ∈ fm_T0 := fm_T0_1 227 rfl rfl
theorem q_228 : (Jvm.Cond.lays "AgentNet$Traveller" "AgentNet$Traveller" "number" "I") ∈ fm_T0 := fm_T0_1 228 rfl rfl
theorem q_230 : (Jvm.Cond.lays "AgentNet$Traveller" "AgentNet$Traveller" "script" "I") ∈ fm_T0 := fm_T0_1 230 rfl rfl
theorem q_232 : (Jvm.Cond.lays "AgentNet$Traveller" "AgentNet$Traveller" "place" "I") ∈ fm_T0 := fm_T0_1 232 rfl rfl
theorem q_234 : (Jvm.Cond.lays "AgentNet$Traveller" "AgentNet$Traveller" "fuel" "I") ∈ fm_T0 := fm_T0_1 234 rfl rfl
theorem q_236 : (Jvm.Cond.lays "AgentNet$Traveller" "AgentNet$Traveller" "hops" "I") ∈ fm_T0 := fm_T0_1 236 rfl rfl
theorem q_238 : (Jvm.Cond.lays "AgentNet$Traveller" "AgentNet$Traveller" "said" "I") ∈ fm_T0 := fm_T0_1 238 rfl rfl
theorem q_240 : (Jvm.Cond.lays "AgentNet$Traveller" "AgentNet$Traveller" "wait" "I") ∈ fm_T0 := fm_T0_2 0 rfl rfl
theorem q_242 : (Jvm.Cond.lays "AgentNet$Traveller" "AgentNet$Traveller" "cloned" "Z") ∈ fm_T0 := fm_T0_2 2 rfl rfl
theorem q_244 : (Jvm.Cond.lays "AgentNet$Traveller" "AgentNet$Traveller" "depth" "I") ∈ fm_T0 := fm_T0_2 4 rfl rfl
theorem q_246 : (Jvm.Cond.lays "AgentNet$Traveller" "AgentNet$Traveller" "pairs" "I") ∈ fm_T0 := fm_T0_2 6 rfl rfl
theorem q_248 : (Jvm.Cond.laysFinal "AgentNet$Traveller" "AgentNet$Traveller" "stack" "[J") ∈ fm_T0 := fm_T0_2 8 rfl rfl
theorem q_250 : (Jvm.Cond.laysFinal "AgentNet$Traveller" "AgentNet$Traveller" "firsts" "[J") ∈ fm_T0 := fm_T0_2 10 rfl rfl
theorem q_252 : (Jvm.Cond.laysFinal "AgentNet$Traveller" "AgentNet$Traveller" "seconds" "[J") ∈ fm_T0 := fm_T0_2 12 rfl rfl
theorem q_255 : (Jvm.Cond.arrayClass Jvm.ClassFile.FieldType.boolean) ∈ fm_T0 := fm_T0_2 15 rfl rfl
theorem q_256 : (Jvm.Cond.fieldLink "AgentNet$FreeRun" (12 : Nat) "AgentNet$FreeRun" "sayings" "LAgentNet$Sayings;") ∈ fm_T0 := fm_T0_2 16 rfl rfl
theorem q_257 : (Jvm.Cond.fieldLink "AgentNet" (205 : Nat) "AgentNet$FreeRun" "sayings" "LAgentNet$Sayings;") ∈ fm_T0 := fm_T0_2 17 rfl rfl
theorem q_258 : (Jvm.Cond.fieldLink "AgentNet$FreeRun" (18 : Nat) "AgentNet$FreeRun" "met" "[Z") ∈ fm_T0 := fm_T0_2 18 rfl rfl
theorem q_259 : (Jvm.Cond.fieldLink "AgentNet" (201 : Nat) "AgentNet$FreeRun" "met" "[Z") ∈ fm_T0 := fm_T0_2 19 rfl rfl
theorem q_260 : (Jvm.Cond.fieldLink "AgentNet$FreeRun" (25 : Nat) "AgentNet$FreeRun" "self" "LAgentNet$Traveller;") ∈ fm_T0 := fm_T0_2 20 rfl rfl
theorem q_261 : (Jvm.Cond.fieldLink "AgentNet$FreeRun" (29 : Nat) "AgentNet$FreeRun" "child" "LAgentNet$Traveller;") ∈ fm_T0 := fm_T0_2 21 rfl rfl
theorem q_262 : (Jvm.Cond.fieldLink "AgentNet$FreeRun" (32 : Nat) "AgentNet$FreeRun" "childHost" "I") ∈ fm_T0 := fm_T0_2 22 rfl rfl
theorem q_263 : (Jvm.Cond.laysFinal "AgentNet$FreeRun" "AgentNet$FreeRun" "sayings" "LAgentNet$Sayings;") ∈ fm_T0 := fm_T0_2 23 rfl rfl
theorem q_265 : (Jvm.Cond.laysFinal "AgentNet$FreeRun" "AgentNet$FreeRun" "met" "[Z") ∈ fm_T0 := fm_T0_2 25 rfl rfl
theorem q_267 : (Jvm.Cond.laysFinal "AgentNet$FreeRun" "AgentNet$FreeRun" "self" "LAgentNet$Traveller;") ∈ fm_T0 := fm_T0_2 27 rfl rfl
theorem q_269 : (Jvm.Cond.laysFinal "AgentNet$FreeRun" "AgentNet$FreeRun" "child" "LAgentNet$Traveller;") ∈ fm_T0 := fm_T0_2 29 rfl rfl
theorem q_271 : (Jvm.Cond.lays "AgentNet$FreeRun" "AgentNet$FreeRun" "childHost" "I") ∈ fm_T0 := fm_T0_2 31 rfl rfl
theorem q_274 : (Jvm.Cond.instantiable "AgentNet$Script" (2 : Nat)) ∈ fm_T0 := fm_T0_2 34 rfl rfl
theorem q_276 : (Jvm.Cond.instanceMethod ({ cls := "AgentNet$Script", name := "<init>", desc := "()V" } : Jvm.MethodName)) ∈ fm_T0 := fm_T0_2 36 rfl rfl
theorem q_277 : (Jvm.Cond.code ({ cls := "AgentNet$Script", name := "<init>", desc := "()V" } : Jvm.MethodName) prog_8_method_1_code (1 : Nat) (Option.none : Option Jvm.ClassFile.FieldType)) ∈ fm_T0 := fm_T0_2 37 rfl rfl
theorem q_278 : (Jvm.Cond.methodLink "AgentNet$Script" (3 : Nat) ({ cls := "java/lang/Object", name := "<init>", desc := "()V" } : Jvm.MethodName)) ∈ fm_T0 := fm_T0_2 38 rfl rfl
theorem q_279 : (Jvm.Cond.fieldLink "AgentNet$Script" (9 : Nat) "AgentNet$Script" "bytes" "[I") ∈ fm_T0 := fm_T0_2 39 rfl rfl
theorem q_280 : (Jvm.Cond.fieldLink "AgentNet$Script" (15 : Nat) "AgentNet$Script" "length" "I") ∈ fm_T0 := fm_T0_2 40 rfl rfl
theorem q_281 : (Jvm.Cond.laysFinal "AgentNet$Script" "AgentNet$Script" "bytes" "[I") ∈ fm_T0 := fm_T0_2 41 rfl rfl
theorem q_283 : (Jvm.Cond.lays "AgentNet$Script" "AgentNet$Script" "length" "I") ∈ fm_T0 := fm_T0_2 43 rfl rfl
theorem q_286 : (Jvm.Cond.instantiable "AgentNet$Site" (6 : Nat)) ∈ fm_T0 := fm_T0_2 46 rfl rfl
theorem q_287 : (Jvm.Cond.methodLink "AgentNet" (59 : Nat) ({ cls := "AgentNet$Site", name := "<init>", desc := "(I)V" } : Jvm.MethodName)) ∈ fm_T0 := fm_T0_2 47 rfl rfl
theorem q_288 : (Jvm.Cond.instanceMethod ({ cls := "AgentNet$Site", name := "<init>", desc := "(I)V" } : Jvm.MethodName)) ∈ fm_T0 := fm_T0_2 48 rfl rfl
theorem q_289 : (Jvm.Cond.code ({ cls := "AgentNet$Site", name := "<init>", desc := "(I)V" } : Jvm.MethodName) prog_9_method_1_code (2 : Nat) (Option.none : Option Jvm.ClassFile.FieldType)) ∈ fm_T0 := fm_T0_2 49 rfl rfl
theorem q_290 : (Jvm.Cond.methodLink "AgentNet$Site" (3 : Nat) ({ cls := "java/lang/Object", name := "<init>", desc := "()V" } : Jvm.MethodName)) ∈ fm_T0 := fm_T0_2 50 rfl rfl
theorem q_291 : (Jvm.Cond.classLink "AgentNet$Site" (19 : Nat) "AgentNet$Memory") ∈ fm_T0 := fm_T0_2 51 rfl rfl
theorem q_292 : (Jvm.Cond.instantiable "AgentNet$Memory" (6 : Nat)) ∈ fm_T0 := fm_T0_2 52 rfl rfl
theorem q_293 : (Jvm.Cond.methodLink "AgentNet$Site" (21 : Nat) ({ cls := "AgentNet$Memory", name := "<init>", desc := "()V" } : Jvm.MethodName)) ∈ fm_T0 := fm_T0_2 53 rfl rfl
theorem q_294 : (Jvm.Cond.instanceMethod ({ cls := "AgentNet$Memory", name := "<init>", desc := "()V" } : Jvm.MethodName)) ∈ fm_T0 := fm_T0_2 54 rfl rfl
theorem q_295 : (Jvm.Cond.code ({ cls := "AgentNet$Memory", name := "<init>", desc := "()V" } : Jvm.MethodName) prog_3_method_1_code (2 : Nat) (Option.none : Option Jvm.ClassFile.FieldType)) ∈ fm_T0 := fm_T0_2 55 rfl rfl
theorem q_296 : (Jvm.Cond.methodLink "AgentNet$Memory" (3 : Nat) ({ cls := "java/lang/Object", name := "<init>", desc := "()V" } : Jvm.MethodName)) ∈ fm_T0 := fm_T0_2 56 rfl rfl
theorem q_297 : (Jvm.Cond.classLink "AgentNet$Memory" (24 : Nat) "AgentNet$Traveller") ∈ fm_T0 := fm_T0_2 57 rfl rfl
theorem q_299 : (Jvm.Cond.classLink "AgentNet$Memory" (30 : Nat) "AgentNet$Sayings") ∈ fm_T0 := fm_T0_2 59 rfl rfl
theorem q_301 : (Jvm.Cond.methodLink "AgentNet$Memory" (37 : Nat) ({ cls := "java/util/Arrays", name := "fill", desc := "([II)V" } : Jvm.MethodName)) ∈ fm_T0 := fm_T0_2 61 rfl rfl
theorem q_302 : (Jvm.Cond.static ({ cls := "java/util/Arrays", name := "fill", desc := "([II)V" } : Jvm.MethodName)) ∈ fm_T0 := fm_T0_2 62 rfl rfl
theorem q_303 : (Jvm.Cond.code ({ cls := "java/util/Arrays", name := "fill", desc := "([II)V" } : Jvm.MethodName) prog_23_method_103_code (4 : Nat) (Option.none : Option Jvm.ClassFile.FieldType)) ∈ fm_T0 := fm_T0_2 63 rfl rfl
theorem q_305 : (Jvm.Cond.fieldLink "AgentNet$Memory" (9 : Nat) "AgentNet$Memory" "slots" "[I") ∈ fm_T0 := fm_T0_2 65 rfl rfl
theorem q_306 : (Jvm.Cond.fieldLink "AgentNet$Site" (70 : Nat) "AgentNet$Memory" "slots" "[I") ∈ fm_T0 := fm_T0_2 66 rfl rfl
theorem q_307 : (Jvm.Cond.fieldLink "AgentNet" (180 : Nat) "AgentNet$Memory" "slots" "[I") ∈ fm_T0 := fm_T0_2 67 rfl rfl
theorem q_308 : (Jvm.Cond.fieldLink "AgentNet$Memory" (15 : Nat) "AgentNet$Memory" "known" "[I") ∈ fm_T0 := fm_T0_2 68 rfl rfl
theorem q_309 : (Jvm.Cond.fieldLink "AgentNet$Site" (57 : Nat) "AgentNet$Memory" "known" "[I") ∈ fm_T0 := fm_T0_2 69 rfl rfl
theorem q_310 : (Jvm.Cond.fieldLink "AgentNet$Memory" (18 : Nat) "AgentNet$Memory" "owed" "[I") ∈ fm_T0 := fm_T0_2 70 rfl rfl
theorem q_311 : (Jvm.Cond.fieldLink "AgentNet$Site" (53 : Nat) "AgentNet$Memory" "owed" "[I") ∈ fm_T0 := fm_T0_2 71 rfl rfl
theorem q_312 : (Jvm.Cond.fieldLink "AgentNet$Memory" (21 : Nat) "AgentNet$Memory" "notes" "[I") ∈ fm_T0 := fm_T0_2 72 rfl rfl
theorem q_313 : (Jvm.Cond.fieldLink "AgentNet$Site" (82 : Nat) "AgentNet$Memory" "notes" "[I") ∈ fm_T0 := fm_T0_2 73 rfl rfl
theorem q_314 : (Jvm.Cond.fieldLink "AgentNet$Memory" (26 : Nat) "AgentNet$Memory" "travellers" "[LAgentNet$Traveller;") ∈ fm_T0 := fm_T0_2 74 rfl rfl
theorem q_315 : (Jvm.Cond.fieldLink "AgentNet" (87 : Nat) "AgentNet$Memory" "travellers" "[LAgentNet$Traveller;") ∈ fm_T0 := fm_T0_2 75 rfl rfl
theorem q_316 : (Jvm.Cond.fieldLink "AgentNet$Site" (66 : Nat) "AgentNet$Memory" "travellers" "[LAgentNet$Traveller;") ∈ fm_T0 := fm_T0_2 76 rfl rfl
theorem q_317 : (Jvm.Cond.fieldLink "AgentNet$Memory" (33 : Nat) "AgentNet$Memory" "sayings" "LAgentNet$Sayings;") ∈ fm_T0 := fm_T0_2 77 rfl rfl
theorem q_318 : (Jvm.Cond.fieldLink "AgentNet$Site" (43 : Nat) "AgentNet$Memory" "sayings" "LAgentNet$Sayings;") ∈ fm_T0 := fm_T0_2 78 rfl rfl
theorem q_319 : (Jvm.Cond.laysFinal "AgentNet$Memory" "AgentNet$Memory" "slots" "[I") ∈ fm_T0 := fm_T0_2 79 rfl rfl
theorem q_321 : (Jvm.Cond.laysFinal "AgentNet$Memory" "AgentNet$Memory" "known" "[I") ∈ fm_T0 := fm_T0_2 81 rfl rfl
theorem q_323 : (Jvm.Cond.laysFinal "AgentNet$Memory" "AgentNet$Memory" "owed" "[I") ∈ fm_T0 := fm_T0_2 83 rfl rfl
theorem q_325 : (Jvm.Cond.laysFinal "AgentNet$Memory" "AgentNet$Memory" "notes" "[I") ∈ fm_T0 := fm_T0_2 85 rfl rfl
theorem q_327 : (Jvm.Cond.laysFinal "AgentNet$Memory" "AgentNet$Memory" "travellers" "[LAgentNet$Traveller;") ∈ fm_T0 := fm_T0_2 87 rfl rfl
theorem q_329 : (Jvm.Cond.laysFinal "AgentNet$Memory" "AgentNet$Memory" "sayings" "LAgentNet$Sayings;") ∈ fm_T0 := fm_T0_2 89 rfl rfl
theorem q_332 : (Jvm.Cond.fieldLink "AgentNet$Site" (32 : Nat) "AgentNet$Site" "number" "I") ∈ fm_T0 := fm_T0_2 92 rfl rfl
theorem q_333 : (Jvm.Cond.fieldLink "AgentNet$Site" (9 : Nat) "AgentNet$Site" "up" "Z") ∈ fm_T0 := fm_T0_2 93 rfl rfl
theorem q_334 : (Jvm.Cond.fieldLink "AgentNet" (76 : Nat) "AgentNet$Site" "up" "Z") ∈ fm_T0 := fm_T0_2 94 rfl rfl
theorem q_335 : (Jvm.Cond.fieldLink "AgentNet$Site" (15 : Nat) "AgentNet$Site" "sectorsLeft" "I") ∈ fm_T0 := fm_T0_2 95 rfl rfl
theorem q_336 : (Jvm.Cond.fieldLink "AgentNet" (121 : Nat) "AgentNet$Site" "sectorsLeft" "I") ∈ fm_T0 := fm_T0_2 96 rfl rfl
theorem q_337 : (Jvm.Cond.fieldLink "AgentNet$Site" (22 : Nat) "AgentNet$Site" "memory" "LAgentNet$Memory;") ∈ fm_T0 := fm_T0_2 97 rfl rfl
theorem q_338 : (Jvm.Cond.fieldLink "AgentNet" (83 : Nat) "AgentNet$Site" "memory" "LAgentNet$Memory;") ∈ fm_T0 := fm_T0_2 98 rfl rfl
theorem q_339 : (Jvm.Cond.fieldLink "AgentNet$Site" (26 : Nat) "AgentNet$Site" "sealedCopy" "LAgentNet$Memory;") ∈ fm_T0 := fm_T0_2 99 rfl rfl
theorem q_340 : (Jvm.Cond.fieldLink "AgentNet" (186 : Nat) "AgentNet$Site" "sealedCopy" "LAgentNet$Memory;") ∈ fm_T0 := fm_T0_2 100 rfl rfl
theorem q_341 : (Jvm.Cond.fieldLink "AgentNet$Site" (29 : Nat) "AgentNet$Site" "copy" "LAgentNet$Memory;") ∈ fm_T0 := fm_T0_2 101 rfl rfl
theorem q_342 : (Jvm.Cond.laysFinal "AgentNet$Site" "AgentNet$Site" "number" "I") ∈ fm_T0 := fm_T0_2 102 rfl rfl
theorem q_344 : (Jvm.Cond.lays "AgentNet$Site" "AgentNet$Site" "up" "Z") ∈ fm_T0 := fm_T0_2 104 rfl rfl
theorem q_346 : (Jvm.Cond.lays "AgentNet$Site" "AgentNet$Site" "sectorsLeft" "I") ∈ fm_T0 := fm_T0_2 106 rfl rfl
theorem q_348 : (Jvm.Cond.lays "AgentNet$Site" "AgentNet$Site" "memory" "LAgentNet$Memory;") ∈ fm_T0 := fm_T0_2 108 rfl rfl
theorem q_350 : (Jvm.Cond.lays "AgentNet$Site" "AgentNet$Site" "sealedCopy" "LAgentNet$Memory;") ∈ fm_T0 := fm_T0_2 110 rfl rfl
theorem q_352 : (Jvm.Cond.lays "AgentNet$Site" "AgentNet$Site" "copy" "LAgentNet$Memory;") ∈ fm_T0 := fm_T0_2 112 rfl rfl
theorem q_355 : (Jvm.Cond.fieldLink "AgentNet" (11 : Nat) "AgentNet" "scripts" "[LAgentNet$Script;") ∈ fm_T0 := fm_T0_2 115 rfl rfl
theorem q_356 : (Jvm.Cond.fieldLink "AgentNet" (17 : Nat) "AgentNet" "tables" "[[I") ∈ fm_T0 := fm_T0_2 116 rfl rfl
theorem q_357 : (Jvm.Cond.fieldLink "AgentNet" (22 : Nat) "AgentNet" "sites" "[LAgentNet$Site;") ∈ fm_T0 := fm_T0_2 117 rfl rfl
theorem q_358 : (Jvm.Cond.fieldLink "AgentNet" (29 : Nat) "AgentNet" "wire" "LAgentNet$Wire;") ∈ fm_T0 := fm_T0_2 118 rfl rfl
theorem q_359 : (Jvm.Cond.fieldLink "AgentNet" (36 : Nat) "AgentNet" "processor" "LAgentNet$Processor;") ∈ fm_T0 := fm_T0_2 119 rfl rfl
theorem q_360 : (Jvm.Cond.fieldLink "AgentNet" (43 : Nat) "AgentNet" "released" "LAgentNet$Sayings;") ∈ fm_T0 := fm_T0_2 120 rfl rfl
theorem q_361 : (Jvm.Cond.fieldLink "AgentNet" (50 : Nat) "AgentNet" "freeRun" "LAgentNet$FreeRun;") ∈ fm_T0 := fm_T0_2 121 rfl rfl
theorem q_362 : (Jvm.Cond.fieldLink "AgentNet" (54 : Nat) "AgentNet" "launched" "I") ∈ fm_T0 := fm_T0_2 122 rfl rfl
theorem q_363 : (Jvm.Cond.laysFinal "AgentNet" "AgentNet" "scripts" "[LAgentNet$Script;") ∈ fm_T0 := fm_T0_2 123 rfl rfl
theorem q_365 : (Jvm.Cond.laysFinal "AgentNet" "AgentNet" "tables" "[[I") ∈ fm_T0 := fm_T0_2 125 rfl rfl
theorem q_367 : (Jvm.Cond.laysFinal "AgentNet" "AgentNet" "sites" "[LAgentNet$Site;") ∈ fm_T0 := fm_T0_2 127 rfl rfl
theorem q_369 : (Jvm.Cond.laysFinal "AgentNet" "AgentNet" "wire" "LAgentNet$Wire;") ∈ fm_T0 := fm_T0_2 129 rfl rfl
theorem q_371 : (Jvm.Cond.laysFinal "AgentNet" "AgentNet" "processor" "LAgentNet$Processor;") ∈ fm_T0 := fm_T0_2 131 rfl rfl
theorem q_373 : (Jvm.Cond.laysFinal "AgentNet" "AgentNet" "released" "LAgentNet$Sayings;") ∈ fm_T0 := fm_T0_2 133 rfl rfl
theorem q_375 : (Jvm.Cond.laysFinal "AgentNet" "AgentNet" "freeRun" "LAgentNet$FreeRun;") ∈ fm_T0 := fm_T0_2 135 rfl rfl
theorem q_377 : (Jvm.Cond.lays "AgentNet" "AgentNet" "launched" "I") ∈ fm_T0 := fm_T0_2 137 rfl rfl
theorem q_380 : (Jvm.Cond.methodLink "AgentNetLaw" (49 : Nat) ({ cls := "AgentNet", name := "program", desc := "(IJI)I" } : Jvm.MethodName)) ∈ fm_T0 := fm_T0_2 140 rfl rfl
theorem q_381 : (Jvm.Cond.instanceMethod ({ cls := "AgentNet", name := "program", desc := "(IJI)I" } : Jvm.MethodName)) ∈ fm_T0 := fm_T0_2 141 rfl rfl
theorem q_382 : (Jvm.Cond.selects "AgentNet" ({ cls := "AgentNet", name := "program", desc := "(IJI)I" } : Jvm.MethodName) ({ cls := "AgentNet", name := "program", desc := "(IJI)I" } : Jvm.MethodName)) ∈ fm_T0 := fm_T0_2 142 rfl rfl
theorem q_383 : (Jvm.Cond.code ({ cls := "AgentNet", name := "program", desc := "(IJI)I" } : Jvm.MethodName) prog_1_method_2_code (5 : Nat) (Option.some Jvm.ClassFile.FieldType.int)) ∈ fm_T0 := fm_T0_2 143 rfl rfl
theorem q_384 : (Jvm.Cond.methodLink "AgentNet" (62 : Nat) ({ cls := "AgentNet", name := "isProgram", desc := "(I)Z" } : Jvm.MethodName)) ∈ fm_T0 := fm_T0_2 144 rfl rfl
theorem q_385 : (Jvm.Cond.static ({ cls := "AgentNet", name := "isProgram", desc := "(I)Z" } : Jvm.MethodName)) ∈ fm_T0 := fm_T0_2 145 rfl rfl
theorem q_386 : (Jvm.Cond.code ({ cls := "AgentNet", name := "isProgram", desc := "(I)Z" } : Jvm.MethodName) prog_1_method_23_code (1 : Nat) (Option.some Jvm.ClassFile.FieldType.boolean)) ∈ fm_T0 := fm_T0_2 146 rfl rfl
theorem q_387 : (Jvm.Cond.methodLink "AgentNet" (66 : Nat) ({ cls := "AgentNet$Script", name := "append", desc := "(JI)I" } : Jvm.MethodName)) ∈ fm_T0 := fm_T0_2 147 rfl rfl
theorem q_388 : (Jvm.Cond.instanceMethod ({ cls := "AgentNet$Script", name := "append", desc := "(JI)I" } : Jvm.MethodName)) ∈ fm_T0 := fm_T0_2 148 rfl rfl
theorem q_389 : (Jvm.Cond.selects "AgentNet$Script" ({ cls := "AgentNet$Script", name := "append", desc := "(JI)I" } : Jvm.MethodName) ({ cls := "AgentNet$Script", name := "append", desc := "(JI)I" } : Jvm.MethodName)) ∈ fm_T0 := fm_T0_2 149 rfl rfl
theorem q_390 : (Jvm.Cond.code ({ cls := "AgentNet$Script", name := "append", desc := "(JI)I" } : Jvm.MethodName) prog_8_method_2_code (5 : Nat) (Option.some Jvm.ClassFile.FieldType.int)) ∈ fm_T0 := fm_T0_2 150 rfl rfl
theorem q_391 : (Jvm.Cond.methodLink "AgentNetLaw" (54 : Nat) ({ cls := "AgentNet", name := "table", desc := "(III)Z" } : Jvm.MethodName)) ∈ fm_T0 := fm_T0_2 151 rfl rfl
theorem q_392 : (Jvm.Cond.instanceMethod ({ cls := "AgentNet", name := "table", desc := "(III)Z" } : Jvm.MethodName)) ∈ fm_T0 := fm_T0_2 152 rfl rfl
theorem q_393 : (Jvm.Cond.selects "AgentNet" ({ cls := "AgentNet", name := "table", desc := "(III)Z" } : Jvm.MethodName) ({ cls := "AgentNet", name := "table", desc := "(III)Z" } : Jvm.MethodName)) ∈ fm_T0 := fm_T0_2 153 rfl rfl
theorem q_394 : (Jvm.Cond.code ({ cls := "AgentNet", name := "table", desc := "(III)Z" } : Jvm.MethodName) prog_1_method_3_code (4 : Nat) (Option.some Jvm.ClassFile.FieldType.boolean)) ∈ fm_T0 := fm_T0_2 154 rfl rfl
theorem q_395 : (Jvm.Cond.methodLink "AgentNet" (70 : Nat) ({ cls := "AgentNet", name := "isHost", desc := "(I)Z" } : Jvm.MethodName)) ∈ fm_T0 := fm_T0_2 155 rfl rfl
theorem q_396 : (Jvm.Cond.static ({ cls := "AgentNet", name := "isHost", desc := "(I)Z" } : Jvm.MethodName)) ∈ fm_T0 := fm_T0_2 156 rfl rfl
theorem q_397 : (Jvm.Cond.code ({ cls := "AgentNet", name := "isHost", desc := "(I)Z" } : Jvm.MethodName) prog_1_method_22_code (1 : Nat) (Option.some Jvm.ClassFile.FieldType.boolean)) ∈ fm_T0 := fm_T0_2 157 rfl rfl
theorem q_398 : (Jvm.Cond.methodLink "AgentNetLaw" (92 : Nat) ({ cls := "AgentNet", name := "message", desc := "(II)I" } : Jvm.MethodName)) ∈ fm_T0 := fm_T0_2 158 rfl rfl
theorem q_399 : (Jvm.Cond.instanceMethod ({ cls := "AgentNet", name := "message", desc := "(II)I" } : Jvm.MethodName)) ∈ fm_T0 := fm_T0_2 159 rfl rfl
theorem q_400 : (Jvm.Cond.selects "AgentNet" ({ cls := "AgentNet", name := "message", desc := "(II)I" } : Jvm.MethodName) ({ cls := "AgentNet", name := "message", desc := "(II)I" } : Jvm.MethodName)) ∈ fm_T0 := fm_T0_2 160 rfl rfl
theorem q_401 : (Jvm.Cond.code ({ cls := "AgentNet", name := "message", desc := "(II)I" } : Jvm.MethodName) prog_1_method_12_code (3 : Nat) (Option.some Jvm.ClassFile.FieldType.int)) ∈ fm_T0 := fm_T0_2 161 rfl rfl
theorem q_402 : (Jvm.Cond.methodLink "AgentNet" (144 : Nat) ({ cls := "AgentNet$Wire", name := "has", desc := "(I)Z" } : Jvm.MethodName)) ∈ fm_T0 := fm_T0_2 162 rfl rfl
theorem q_403 : (Jvm.Cond.instanceMethod ({ cls := "AgentNet$Wire", name := "has", desc := "(I)Z" } : Jvm.MethodName)) ∈ fm_T0 := fm_T0_2 163 rfl rfl
theorem q_404 : (Jvm.Cond.selects "AgentNet$Wire" ({ cls := "AgentNet$Wire", name := "has", desc := "(I)Z" } : Jvm.MethodName) ({ cls := "AgentNet$Wire", name := "has", desc := "(I)Z" } : Jvm.MethodName)) ∈ fm_T0 := fm_T0_2 164 rfl rfl
theorem q_405 : (Jvm.Cond.code ({ cls := "AgentNet$Wire", name := "has", desc := "(I)Z" } : Jvm.MethodName) prog_11_method_2_code (2 : Nat) (Option.some Jvm.ClassFile.FieldType.boolean)) ∈ fm_T0 := fm_T0_2 165 rfl rfl
theorem q_406 : (Jvm.Cond.methodLink "AgentNet" (174 : Nat) ({ cls := "AgentNet$Message", name := "tell", desc := "(I)I" } : Jvm.MethodName)) ∈ fm_T0 := fm_T0_2 166 rfl rfl
theorem q_407 : (Jvm.Cond.instanceMethod ({ cls := "AgentNet$Message", name := "tell", desc := "(I)I" } : Jvm.MethodName)) ∈ fm_T0 := fm_T0_2 167 rfl rfl
theorem q_408 : (Jvm.Cond.selects "AgentNet$Message" ({ cls := "AgentNet$Message", name := "tell", desc := "(I)I" } : Jvm.MethodName) ({ cls := "AgentNet$Message", name := "tell", desc := "(I)I" } : Jvm.MethodName)) ∈ fm_T0 := fm_T0_2 168 rfl rfl
theorem q_409 : (Jvm.Cond.code ({ cls := "AgentNet$Message", name := "tell", desc := "(I)I" } : Jvm.MethodName) prog_4_method_10_code (2 : Nat) (Option.some Jvm.ClassFile.FieldType.int)) ∈ fm_T0 := fm_T0_2 169 rfl rfl
theorem q_410 : (Jvm.Cond.methodLink "AgentNetLaw" (96 : Nat) ({ cls := "AgentNet", name := "slot", desc := "(II)I" } : Jvm.MethodName)) ∈ fm_T0 := fm_T0_2 170 rfl rfl
theorem q_411 : (Jvm.Cond.instanceMethod ({ cls := "AgentNet", name := "slot", desc := "(II)I" } : Jvm.MethodName)) ∈ fm_T0 := fm_T0_2 171 rfl rfl
theorem q_412 : (Jvm.Cond.selects "AgentNet" ({ cls := "AgentNet", name := "slot", desc := "(II)I" } : Jvm.MethodName) ({ cls := "AgentNet", name := "slot", desc := "(II)I" } : Jvm.MethodName)) ∈ fm_T0 := fm_T0_2 172 rfl rfl
theorem q_413 : (Jvm.Cond.code ({ cls := "AgentNet", name := "slot", desc := "(II)I" } : Jvm.MethodName) prog_1_method_13_code (3 : Nat) (Option.some Jvm.ClassFile.FieldType.int)) ∈ fm_T0 := fm_T0_2 173 rfl rfl
theorem q_414 : (Jvm.Cond.methodLink "AgentNet" (177 : Nat) ({ cls := "AgentNet", name := "isAgent", desc := "(I)Z" } : Jvm.MethodName)) ∈ fm_T0 := fm_T0_2 174 rfl rfl
theorem q_415 : (Jvm.Cond.static ({ cls := "AgentNet", name := "isAgent", desc := "(I)Z" } : Jvm.MethodName)) ∈ fm_T0 := fm_T0_2 175 rfl rfl
theorem q_416 : (Jvm.Cond.code ({ cls := "AgentNet", name := "isAgent", desc := "(I)Z" } : Jvm.MethodName) prog_1_method_24_code (1 : Nat) (Option.some Jvm.ClassFile.FieldType.boolean)) ∈ fm_T0 := fm_T0_2 176 rfl rfl
theorem q_417 : (Jvm.Cond.methodLink "AgentNetLaw" (100 : Nat) ({ cls := "AgentNet", name := "agent", desc := "(III)I" } : Jvm.MethodName)) ∈ fm_T0 := fm_T0_2 177 rfl rfl
theorem q_418 : (Jvm.Cond.instanceMethod ({ cls := "AgentNet", name := "agent", desc := "(III)I" } : Jvm.MethodName)) ∈ fm_T0 := fm_T0_2 178 rfl rfl
theorem q_419 : (Jvm.Cond.selects "AgentNet" ({ cls := "AgentNet", name := "agent", desc := "(III)I" } : Jvm.MethodName) ({ cls := "AgentNet", name := "agent", desc := "(III)I" } : Jvm.MethodName)) ∈ fm_T0 := fm_T0_2 179 rfl rfl
theorem q_420 : (Jvm.Cond.code ({ cls := "AgentNet", name := "agent", desc := "(III)I" } : Jvm.MethodName) prog_1_method_14_code (4 : Nat) (Option.some Jvm.ClassFile.FieldType.int)) ∈ fm_T0 := fm_T0_2 180 rfl rfl
theorem q_421 : (Jvm.Cond.methodLink "AgentNet" (184 : Nat) ({ cls := "AgentNet$Traveller", name := "tell", desc := "(I)I" } : Jvm.MethodName)) ∈ fm_T0 := fm_T0_2 181 rfl rfl
theorem q_422 : (Jvm.Cond.instanceMethod ({ cls := "AgentNet$Traveller", name := "tell", desc := "(I)I" } : Jvm.MethodName)) ∈ fm_T0 := fm_T0_2 182 rfl rfl
theorem q_423 : (Jvm.Cond.selects "AgentNet$Traveller" ({ cls := "AgentNet$Traveller", name := "tell", desc := "(I)I" } : Jvm.MethodName) ({ cls := "AgentNet$Traveller", name := "tell", desc := "(I)I" } : Jvm.MethodName)) ∈ fm_T0 := fm_T0_2 183 rfl rfl
theorem q_424 : (Jvm.Cond.code ({ cls := "AgentNet$Traveller", name := "tell", desc := "(I)I" } : Jvm.MethodName) prog_10_method_7_code (2 : Nat) (Option.some Jvm.ClassFile.FieldType.int)) ∈ fm_T0 := fm_T0_2 184 rfl rfl
theorem q_426 : (Jvm.Cond.static ({ cls := "AgentNet", name := "isPair", desc := "(J)Z" } : Jvm.MethodName)) ∈ fm_T0 := fm_T0_2 186 rfl rfl
theorem q_427 : (Jvm.Cond.code ({ cls := "AgentNet", name := "isPair", desc := "(J)Z" } : Jvm.MethodName) prog_1_method_25_code (2 : Nat) (Option.some Jvm.ClassFile.FieldType.boolean)) ∈ fm_T0 := fm_T0_2 187 rfl rfl
theorem q_428 : (Jvm.Cond.constantLong "AgentNet" (230 : Nat) (1099511627776 : Int64)) ∈ fm_T0 := fm_T0_2 188 rfl rfl
theorem q_429 : (Jvm.Cond.methodLink "AgentNetLaw" (104 : Nat) ({ cls := "AgentNet", name := "host", desc := "(II)I" } : Jvm.MethodName)) ∈ fm_T0 := fm_T0_2 189 rfl rfl
theorem q_430 : (Jvm.Cond.instanceMethod ({ cls := "AgentNet", name := "host", desc := "(II)I" } : Jvm.MethodName)) ∈ fm_T0 := fm_T0_2 190 rfl rfl
theorem q_431 : (Jvm.Cond.selects "AgentNet" ({ cls := "AgentNet", name := "host", desc := "(II)I" } : Jvm.MethodName) ({ cls := "AgentNet", name := "host", desc := "(II)I" } : Jvm.MethodName)) ∈ fm_T0 := fm_T0_2 191 rfl rfl
theorem q_432 : (Jvm.Cond.code ({ cls := "AgentNet", name := "host", desc := "(II)I" } : Jvm.MethodName) prog_1_method_15_code (3 : Nat) (Option.some Jvm.ClassFile.FieldType.int)) ∈ fm_T0 := fm_T0_2 192 rfl rfl
theorem q_433 : (Jvm.Cond.methodLink "AgentNet" (185 : Nat) ({ cls := "AgentNet$Site", name := "tell", desc := "(I)I" } : Jvm.MethodName)) ∈ fm_T0 := fm_T0_2 193 rfl rfl
theorem q_434 : (Jvm.Cond.instanceMethod ({ cls := "AgentNet$Site", name := "tell", desc := "(I)I" } : Jvm.MethodName)) ∈ fm_T0 := fm_T0_2 194 rfl rfl
theorem q_435 : (Jvm.Cond.selects "AgentNet$Site" ({ cls := "AgentNet$Site", name := "tell", desc := "(I)I" } : Jvm.MethodName) ({ cls := "AgentNet$Site", name := "tell", desc := "(I)I" } : Jvm.MethodName)) ∈ fm_T0 := fm_T0_2 195 rfl rfl
theorem q_436 : (Jvm.Cond.code ({ cls := "AgentNet$Site", name := "tell", desc := "(I)I" } : Jvm.MethodName) prog_9_method_8_code (2 : Nat) (Option.some Jvm.ClassFile.FieldType.int)) ∈ fm_T0 := fm_T0_2 196 rfl rfl
theorem q_437 : (Jvm.Cond.methodLink "AgentNetLaw" (108 : Nat) ({ cls := "AgentNet", name := "sealed", desc := "(I)I" } : Jvm.MethodName)) ∈ fm_T0 := fm_T0_2 197 rfl rfl
theorem q_438 : (Jvm.Cond.instanceMethod ({ cls := "AgentNet", name := "sealed", desc := "(I)I" } : Jvm.MethodName)) ∈ fm_T0 := fm_T0_2 198 rfl rfl
theorem q_439 : (Jvm.Cond.selects "AgentNet" ({ cls := "AgentNet", name := "sealed", desc := "(I)I" } : Jvm.MethodName) ({ cls := "AgentNet", name := "sealed", desc := "(I)I" } : Jvm.MethodName)) ∈ fm_T0 := fm_T0_2 199 rfl rfl
theorem q_440 : (Jvm.Cond.code ({ cls := "AgentNet", name := "sealed", desc := "(I)I" } : Jvm.MethodName) prog_1_method_16_code (7 : Nat) (Option.some Jvm.ClassFile.FieldType.int)) ∈ fm_T0 := fm_T0_2 200 rfl rfl
theorem q_441 : (Jvm.Cond.methodLink "AgentNet" (189 : Nat) ({ cls := "AgentNet$Memory", name := "hopsOf", desc := "(I)I" } : Jvm.MethodName)) ∈ fm_T0 := fm_T0_2 201 rfl rfl
theorem q_442 : (Jvm.Cond.instanceMethod ({ cls := "AgentNet$Memory", name := "hopsOf", desc := "(I)I" } : Jvm.MethodName)) ∈ fm_T0 := fm_T0_2 202 rfl rfl
theorem q_443 : (Jvm.Cond.selects "AgentNet$Memory" ({ cls := "AgentNet$Memory", name := "hopsOf", desc := "(I)I" } : Jvm.MethodName) ({ cls := "AgentNet$Memory", name := "hopsOf", desc := "(I)I" } : Jvm.MethodName)) ∈ fm_T0 := fm_T0_2 203 rfl rfl
theorem q_444 : (Jvm.Cond.code ({ cls := "AgentNet$Memory", name := "hopsOf", desc := "(I)I" } : Jvm.MethodName) prog_3_method_7_code (2 : Nat) (Option.some Jvm.ClassFile.FieldType.int)) ∈ fm_T0 := fm_T0_2 204 rfl rfl
theorem q_445 : (Jvm.Cond.methodLink "AgentNet" (192 : Nat) ({ cls := "java/lang/Math", name := "max", desc := "(II)I" } : Jvm.MethodName)) ∈ fm_T0 := fm_T0_2 205 rfl rfl
theorem q_446 : (Jvm.Cond.static ({ cls := "java/lang/Math", name := "max", desc := "(II)I" } : Jvm.MethodName)) ∈ fm_T0 := fm_T0_2 206 rfl rfl
theorem q_447 : (Jvm.Cond.code ({ cls := "java/lang/Math", name := "max", desc := "(II)I" } : Jvm.MethodName) prog_19_method_65_code (2 : Nat) (Option.some Jvm.ClassFile.FieldType.int)) ∈ fm_T0 := fm_T0_2 207 rfl rfl
theorem q_448 : (Jvm.Cond.methodLink "AgentNetLaw" (112 : Nat) ({ cls := "AgentNet", name := "outputs", desc := "(I)I" } : Jvm.MethodName)) ∈ fm_T0 := fm_T0_2 208 rfl rfl
theorem q_449 : (Jvm.Cond.instanceMethod ({ cls := "AgentNet", name := "outputs", desc := "(I)I" } : Jvm.MethodName)) ∈ fm_T0 := fm_T0_2 209 rfl rfl
theorem q_450 : (Jvm.Cond.selects "AgentNet" ({ cls := "AgentNet", name := "outputs", desc := "(I)I" } : Jvm.MethodName) ({ cls := "AgentNet", name := "outputs", desc := "(I)I" } : Jvm.MethodName)) ∈ fm_T0 := fm_T0_2 210 rfl rfl
theorem q_451 : (Jvm.Cond.code ({ cls := "AgentNet", name := "outputs", desc := "(I)I" } : Jvm.MethodName) prog_1_method_17_code (2 : Nat) (Option.some Jvm.ClassFile.FieldType.int)) ∈ fm_T0 := fm_T0_2 211 rfl rfl
theorem q_452 : (Jvm.Cond.methodLink "AgentNet" (195 : Nat) ({ cls := "AgentNet$Sayings", name := "count", desc := "(I)I" } : Jvm.MethodName)) ∈ fm_T0 := fm_T0_2 212 rfl rfl
theorem q_453 : (Jvm.Cond.instanceMethod ({ cls := "AgentNet$Sayings", name := "count", desc := "(I)I" } : Jvm.MethodName)) ∈ fm_T0 := fm_T0_2 213 rfl rfl
theorem q_454 : (Jvm.Cond.selects "AgentNet$Sayings" ({ cls := "AgentNet$Sayings", name := "count", desc := "(I)I" } : Jvm.MethodName) ({ cls := "AgentNet$Sayings", name := "count", desc := "(I)I" } : Jvm.MethodName)) ∈ fm_T0 := fm_T0_2 214 rfl rfl
theorem q_455 : (Jvm.Cond.code ({ cls := "AgentNet$Sayings", name := "count", desc := "(I)I" } : Jvm.MethodName) prog_7_method_3_code (2 : Nat) (Option.some Jvm.ClassFile.FieldType.int)) ∈ fm_T0 := fm_T0_2 215 rfl rfl
theorem q_456 : (Jvm.Cond.methodLink "AgentNet$Sayings" (22 : Nat) ({ cls := "java/lang/Integer", name := "bitCount", desc := "(I)I" } : Jvm.MethodName)) ∈ fm_T0 := fm_T0_2 216 rfl rfl
theorem q_457 : (Jvm.Cond.static ({ cls := "java/lang/Integer", name := "bitCount", desc := "(I)I" } : Jvm.MethodName)) ∈ fm_T0 := fm_T0_2 217 rfl rfl
theorem q_458 : (Jvm.Cond.code ({ cls := "java/lang/Integer", name := "bitCount", desc := "(I)I" } : Jvm.MethodName) prog_18_method_49_code (1 : Nat) (Option.some Jvm.ClassFile.FieldType.int)) ∈ fm_T0 := fm_T0_2 218 rfl rfl
theorem q_459 : (Jvm.Cond.constant "java/lang/Integer" (265 : Nat) (1431655765 : Int32)) ∈ fm_T0 := fm_T0_2 219 rfl rfl
theorem q_460 : (Jvm.Cond.constant "java/lang/Integer" (266 : Nat) (858993459 : Int32)) ∈ fm_T0 := fm_T0_2 220 rfl rfl
theorem q_461 : (Jvm.Cond.constant "java/lang/Integer" (267 : Nat) (252645135 : Int32)) ∈ fm_T0 := fm_T0_2 221 rfl rfl
theorem q_462 : (Jvm.Cond.methodLink "AgentNetLaw" (116 : Nat) ({ cls := "AgentNet", name := "output", desc := "(II)J" } : Jvm.MethodName)) ∈ fm_T0 := fm_T0_2 222 rfl rfl
theorem q_463 : (Jvm.Cond.instanceMethod ({ cls := "AgentNet", name := "output", desc := "(II)J" } : Jvm.MethodName)) ∈ fm_T0 := fm_T0_2 223 rfl rfl
theorem q_464 : (Jvm.Cond.selects "AgentNet" ({ cls := "AgentNet", name := "output", desc := "(II)J" } : Jvm.MethodName) ({ cls := "AgentNet", name := "output", desc := "(II)J" } : Jvm.MethodName)) ∈ fm_T0 := fm_T0_2 224 rfl rfl
theorem q_465 : (Jvm.Cond.code ({ cls := "AgentNet", name := "output", desc := "(II)J" } : Jvm.MethodName) prog_1_method_18_code (3 : Nat) (Option.some Jvm.ClassFile.FieldType.long)) ∈ fm_T0 := fm_T0_2 225 rfl rfl
theorem q_466 : (Jvm.Cond.methodLink "AgentNet" (197 : Nat) ({ cls := "AgentNet$Sayings", name := "valueOf", desc := "(II)J" } : Jvm.MethodName)) ∈ fm_T0 := fm_T0_2 226 rfl rfl
theorem q_467 : (Jvm.Cond.instanceMethod ({ cls := "AgentNet$Sayings", name := "valueOf", desc := "(II)J" } : Jvm.MethodName)) ∈ fm_T0 := fm_T0_2 227 rfl rfl
theorem q_468 : (Jvm.Cond.selects "AgentNet$Sayings" ({ cls := "AgentNet$Sayings", name := "valueOf", desc := "(II)J" } : Jvm.MethodName) ({ cls := "AgentNet$Sayings", name := "valueOf", desc := "(II)J" } : Jvm.MethodName)) ∈ fm_T0 := fm_T0_2 228 rfl rfl
theorem q_469 : (Jvm.Cond.code ({ cls := "AgentNet$Sayings", name := "valueOf", desc := "(II)J" } : Jvm.MethodName) prog_7_method_4_code (3 : Nat) (Option.some Jvm.ClassFile.FieldType.long)) ∈ fm_T0 := fm_T0_2 229 rfl rfl
theorem q_471 : (Jvm.Cond.constantLong "AgentNet$Sayings" (28 : Nat) (1099511627776 : Int64)) ∈ fm_T0 := fm_T0_2 231 rfl rfl
theorem q_472 : (Jvm.Cond.methodLink "AgentNetLaw" (121 : Nat) ({ cls := "AgentNet", name := "expected", desc := "(I)I" } : Jvm.MethodName)) ∈ fm_T0 := fm_T0_2 232 rfl rfl
theorem q_473 : (Jvm.Cond.instanceMethod ({ cls := "AgentNet", name := "expected", desc := "(I)I" } : Jvm.MethodName)) ∈ fm_T0 := fm_T0_2 233 rfl rfl
theorem q_474 : (Jvm.Cond.selects "AgentNet" ({ cls := "AgentNet", name := "expected", desc := "(I)I" } : Jvm.MethodName) ({ cls := "AgentNet", name := "expected", desc := "(I)I" } : Jvm.MethodName)) ∈ fm_T0 := fm_T0_2 234 rfl rfl
theorem q_475 : (Jvm.Cond.code ({ cls := "AgentNet", name := "expected", desc := "(I)I" } : Jvm.MethodName) prog_1_method_19_code (2 : Nat) (Option.some Jvm.ClassFile.FieldType.int)) ∈ fm_T0 := fm_T0_2 235 rfl rfl
theorem q_476 : (Jvm.Cond.methodLink "AgentNetLaw" (125 : Nat) ({ cls := "AgentNet", name := "expectedOutput", desc := "(II)J" } : Jvm.MethodName)) ∈ fm_T0 := fm_T0_2 236 rfl rfl
theorem q_477 : (Jvm.Cond.instanceMethod ({ cls := "AgentNet", name := "expectedOutput", desc := "(II)J" } : Jvm.MethodName)) ∈ fm_T0 := fm_T0_2 237 rfl rfl
theorem q_478 : (Jvm.Cond.selects "AgentNet" ({ cls := "AgentNet", name := "expectedOutput", desc := "(II)J" } : Jvm.MethodName) ({ cls := "AgentNet", name := "expectedOutput", desc := "(II)J" } : Jvm.MethodName)) ∈ fm_T0 := fm_T0_2 238 rfl rfl
theorem q_479 : (Jvm.Cond.code ({ cls := "AgentNet", name := "expectedOutput", desc := "(II)J" } : Jvm.MethodName) prog_1_method_20_code (3 : Nat) (Option.some Jvm.ClassFile.FieldType.long)) ∈ fm_T0 := fm_T0_2 239 rfl rfl
theorem q_480 : (Jvm.Cond.methodLink "AgentNetLaw" (59 : Nat) ({ cls := "AgentNetLaw", name := "launch", desc := "(LAgentNet;III[J)I" } : Jvm.MethodName)) ∈ fm_T0 := fm_T0_3 0 rfl rfl
theorem q_481 : (Jvm.Cond.static ({ cls := "AgentNetLaw", name := "launch", desc := "(LAgentNet;III[J)I" } : Jvm.MethodName)) ∈ fm_T0 := fm_T0_3 1 rfl rfl
theorem q_483 : (Jvm.Cond.classLink "AgentNetLaw" (13 : Nat) "java/lang/IllegalArgumentException") ∈ fm_T0 := fm_T0_3 3 rfl rfl
theorem q_484 : (Jvm.Cond.classLink "AgentNetLaw" (15 : Nat) "java/lang/IllegalStateException") ∈ fm_T0 := fm_T0_3 4 rfl rfl
theorem q_485 : (Jvm.Cond.methodLink "AgentNetLaw" (7 : Nat) ({ cls := "AgentNet", name := "launch", desc := "(III)I" } : Jvm.MethodName)) ∈ fm_T0 := fm_T0_3 5 rfl rfl
theorem q_486 : (Jvm.Cond.instanceMethod ({ cls := "AgentNet", name := "launch", desc := "(III)I" } : Jvm.MethodName)) ∈ fm_T0 := fm_T0_3 6 rfl rfl
theorem q_487 : (Jvm.Cond.selects "AgentNet" ({ cls := "AgentNet", name := "launch", desc := "(III)I" } : Jvm.MethodName) ({ cls := "AgentNet", name := "launch", desc := "(III)I" } : Jvm.MethodName)) ∈ fm_T0 := fm_T0_3 7 rfl rfl
theorem q_488 : (Jvm.Cond.code ({ cls := "AgentNet", name := "launch", desc := "(III)I" } : Jvm.MethodName) prog_1_method_4_code (6 : Nat) (Option.some Jvm.ClassFile.FieldType.int)) ∈ fm_T0 := fm_T0_3 8 rfl rfl
theorem q_489 : (Jvm.Cond.classLink "AgentNet" (73 : Nat) "java/lang/IllegalArgumentException") ∈ fm_T0 := fm_T0_3 9 rfl rfl
theorem q_490 : (Jvm.Cond.instantiable "java/lang/IllegalArgumentException" (6 : Nat)) ∈ fm_T0 := fm_T0_3 10 rfl rfl
theorem q_498 : (Jvm.Cond.selects "java/lang/IllegalArgumentException" ({ cls := "java/lang/Throwable", name := "fillInStackTrace", desc := "(I)Ljava/lang/Throwable;" } : Jvm.MethodName) ({ cls := "java/lang/Throwable", name := "fillInStackTrace", desc := "(I)Ljava/lang/Throwable;" } : Jvm.MethodName)) ∈ fm_T0 := fm_T0_3 18 rfl rfl
theorem q_499 : (Jvm.Cond.selects "java/lang/IllegalArgumentException" ({ cls := "java/lang/Throwable", name := "fillInStackTrace", desc := "()Ljava/lang/Throwable;" } : Jvm.MethodName) ({ cls := "java/lang/Throwable", name := "fillInStackTrace", desc := "()Ljava/lang/Throwable;" } : Jvm.MethodName)) ∈ fm_T0 := fm_T0_3 19 rfl rfl
theorem q_500 : (Jvm.Cond.lays "java/lang/IllegalArgumentException" "java/lang/Throwable" "cause" "Ljava/lang/Throwable;") ∈ fm_T0 := fm_T0_3 20 rfl rfl
theorem q_501 : (Jvm.Cond.lays "java/lang/Throwable" "java/lang/Throwable" "cause" "Ljava/lang/Throwable;") ∈ fm_T0 := fm_T0_3 21 rfl rfl
theorem q_502 : (Jvm.Cond.lays "java/lang/IllegalArgumentException" "java/lang/Throwable" "stackTrace" "[Ljava/lang/StackTraceElement;") ∈ fm_T0 := fm_T0_3 22 rfl rfl
theorem q_503 : (Jvm.Cond.lays "java/lang/Throwable" "java/lang/Throwable" "stackTrace" "[Ljava/lang/StackTraceElement;") ∈ fm_T0 := fm_T0_3 23 rfl rfl
theorem q_504 : (Jvm.Cond.lays "java/lang/IllegalArgumentException" "java/lang/Throwable" "suppressedExceptions" "Ljava/util/List;") ∈ fm_T0 := fm_T0_3 24 rfl rfl
theorem q_505 : (Jvm.Cond.lays "java/lang/Throwable" "java/lang/Throwable" "suppressedExceptions" "Ljava/util/List;") ∈ fm_T0 := fm_T0_3 25 rfl rfl
theorem q_506 : (Jvm.Cond.lays "java/lang/IllegalArgumentException" "java/lang/Throwable" "detailMessage" "Ljava/lang/String;") ∈ fm_T0 := fm_T0_3 26 rfl rfl
theorem q_507 : (Jvm.Cond.lays "java/lang/Throwable" "java/lang/Throwable" "detailMessage" "Ljava/lang/String;") ∈ fm_T0 := fm_T0_3 27 rfl rfl
theorem q_508 : (Jvm.Cond.lays "java/lang/IllegalArgumentException" "java/lang/Throwable" "backtrace" "Ljava/lang/Object;") ∈ fm_T0 := fm_T0_3 28 rfl rfl
theorem q_509 : (Jvm.Cond.lays "java/lang/Throwable" "java/lang/Throwable" "backtrace" "Ljava/lang/Object;") ∈ fm_T0 := fm_T0_3 29 rfl rfl
theorem q_510 : (Jvm.Cond.fieldLink "java/lang/Throwable" (198 : Nat) "java/lang/Throwable" "backtrace" "Ljava/lang/Object;") ∈ fm_T0 := fm_T0_3 30 rfl rfl
theorem q_512 : (Jvm.Cond.instanceMethod ({ cls := "java/lang/Throwable", name := "<init>", desc := "()V" } : Jvm.MethodName)) ∈ fm_T0 := fm_T0_3 32 rfl rfl
theorem q_513 : (Jvm.Cond.code ({ cls := "java/lang/Throwable", name := "<init>", desc := "()V" } : Jvm.MethodName) prog_22_method_1_code (1 : Nat) (Option.none : Option Jvm.ClassFile.FieldType)) ∈ fm_T0 := fm_T0_3 33 rfl rfl
theorem q_514 : (Jvm.Cond.methodLink "java/lang/Throwable" (1 : Nat) ({ cls := "java/lang/Object", name := "<init>", desc := "()V" } : Jvm.MethodName)) ∈ fm_T0 := fm_T0_3 34 rfl rfl
theorem q_515 : (Jvm.Cond.fieldLink "java/lang/Throwable" (13 : Nat) "java/lang/Throwable" "UNASSIGNED_STACK" "[Ljava/lang/StackTraceElement;") ∈ fm_T0 := fm_T0_3 35 rfl rfl
theorem q_517 : (Jvm.Cond.fieldLink "java/lang/Throwable" (20 : Nat) "java/lang/Throwable" "SUPPRESSED_SENTINEL" "Ljava/util/List;") ∈ fm_T0 := fm_T0_3 37 rfl rfl
theorem q_519 : (Jvm.Cond.methodLink "java/lang/Throwable" (27 : Nat) ({ cls := "java/lang/Throwable", name := "fillInStackTrace", desc := "()Ljava/lang/Throwable;" } : Jvm.MethodName)) ∈ fm_T0 := fm_T0_3 39 rfl rfl
theorem q_520 : (Jvm.Cond.instanceMethod ({ cls := "java/lang/Throwable", name := "fillInStackTrace", desc := "()Ljava/lang/Throwable;" } : Jvm.MethodName)) ∈ fm_T0 := fm_T0_3 40 rfl rfl
theorem q_522 : (Jvm.Cond.selects "java/lang/IllegalStateException" ({ cls := "java/lang/Throwable", name := "fillInStackTrace", desc := "()Ljava/lang/Throwable;" } : Jvm.MethodName) ({ cls := "java/lang/Throwable", name := "fillInStackTrace", desc := "()Ljava/lang/Throwable;" } : Jvm.MethodName)) ∈ fm_T0 := fm_T0_3 42 rfl rfl
theorem q_523 : (Jvm.Cond.selects "java/lang/IndexOutOfBoundsException" ({ cls := "java/lang/Throwable", name := "fillInStackTrace", desc := "()Ljava/lang/Throwable;" } : Jvm.MethodName) ({ cls := "java/lang/Throwable", name := "fillInStackTrace", desc := "()Ljava/lang/Throwable;" } : Jvm.MethodName)) ∈ fm_T0 := fm_T0_3 43 rfl rfl
theorem q_525 : (Jvm.Cond.methodLink "java/lang/Throwable" (202 : Nat) ({ cls := "java/lang/Throwable", name := "fillInStackTrace", desc := "(I)Ljava/lang/Throwable;" } : Jvm.MethodName)) ∈ fm_T0 := fm_T0_3 45 rfl rfl
theorem q_527 : (Jvm.Cond.instanceMethod ({ cls := "java/lang/Throwable", name := "fillInStackTrace", desc := "(I)Ljava/lang/Throwable;" } : Jvm.MethodName)) ∈ fm_T0 := fm_T0_3 47 rfl rfl
theorem q_528 : (Jvm.Cond.instantiable "java/lang/Throwable" (6 : Nat)) ∈ fm_T0 := fm_T0_3 48 rfl rfl
theorem q_530 : (Jvm.Cond.methodLink "AgentNet" (75 : Nat) ({ cls := "java/lang/IllegalArgumentException", name := "<init>", desc := "()V" } : Jvm.MethodName)) ∈ fm_T0 := fm_T0_3 50 rfl rfl
theorem q_531 : (Jvm.Cond.instanceMethod ({ cls := "java/lang/IllegalArgumentException", name := "<init>", desc := "()V" } : Jvm.MethodName)) ∈ fm_T0 := fm_T0_3 51 rfl rfl
theorem q_532 : (Jvm.Cond.code ({ cls := "java/lang/IllegalArgumentException", name := "<init>", desc := "()V" } : Jvm.MethodName) prog_15_method_1_code (1 : Nat) (Option.none : Option Jvm.ClassFile.FieldType)) ∈ fm_T0 := fm_T0_3 52 rfl rfl
theorem q_533 : (Jvm.Cond.methodLink "java/lang/IllegalArgumentException" (1 : Nat) ({ cls := "java/lang/RuntimeException", name := "<init>", desc := "()V" } : Jvm.MethodName)) ∈ fm_T0 := fm_T0_3 53 rfl rfl
theorem q_534 : (Jvm.Cond.instanceMethod ({ cls := "java/lang/RuntimeException", name := "<init>", desc := "()V" } : Jvm.MethodName)) ∈ fm_T0 := fm_T0_3 54 rfl rfl
theorem q_535 : (Jvm.Cond.code ({ cls := "java/lang/RuntimeException", name := "<init>", desc := "()V" } : Jvm.MethodName) prog_20_method_1_code (1 : Nat) (Option.none : Option Jvm.ClassFile.FieldType)) ∈ fm_T0 := fm_T0_3 55 rfl rfl
theorem q_536 : (Jvm.Cond.methodLink "java/lang/RuntimeException" (1 : Nat) ({ cls := "java/lang/Exception", name := "<init>", desc := "()V" } : Jvm.MethodName)) ∈ fm_T0 := fm_T0_3 56 rfl rfl
theorem q_537 : (Jvm.Cond.instanceMethod ({ cls := "java/lang/Exception", name := "<init>", desc := "()V" } : Jvm.MethodName)) ∈ fm_T0 := fm_T0_3 57 rfl rfl
theorem q_538 : (Jvm.Cond.code ({ cls := "java/lang/Exception", name := "<init>", desc := "()V" } : Jvm.MethodName) prog_14_method_1_code (1 : Nat) (Option.none : Option Jvm.ClassFile.FieldType)) ∈ fm_T0 := fm_T0_3 58 rfl rfl
theorem q_539 : (Jvm.Cond.methodLink "java/lang/Exception" (1 : Nat) ({ cls := "java/lang/Throwable", name := "<init>", desc := "()V" } : Jvm.MethodName)) ∈ fm_T0 := fm_T0_3 59 rfl rfl
theorem q_540 : (Jvm.Cond.fieldLink "java/lang/Throwable" (198 : Nat) "java/lang/Throwable" "backtrace" "Ljava/lang/Object;") ∈ fm_T0 := fm_T0_3 60 rfl rfl
theorem q_541 : (Jvm.Cond.fieldLink "java/lang/Throwable" (7 : Nat) "java/lang/Throwable" "cause" "Ljava/lang/Throwable;") ∈ fm_T0 := fm_T0_3 61 rfl rfl
theorem q_542 : (Jvm.Cond.fieldLink "java/lang/Throwable" (17 : Nat) "java/lang/Throwable" "stackTrace" "[Ljava/lang/StackTraceElement;") ∈ fm_T0 := fm_T0_3 62 rfl rfl
theorem q_543 : (Jvm.Cond.fieldLink "java/lang/Throwable" (24 : Nat) "java/lang/Throwable" "suppressedExceptions" "Ljava/util/List;") ∈ fm_T0 := fm_T0_3 63 rfl rfl
theorem q_548 : (Jvm.Cond.lays "java/lang/IllegalArgumentException" "java/lang/Throwable" "depth" "I") ∈ fm_T0 := fm_T0_3 68 rfl rfl
theorem q_552 : (Jvm.Cond.classLink "AgentNet" (80 : Nat) "java/lang/IllegalStateException") ∈ fm_T0 := fm_T0_3 72 rfl rfl
theorem q_553 : (Jvm.Cond.instantiable "java/lang/IllegalStateException" (6 : Nat)) ∈ fm_T0 := fm_T0_3 73 rfl rfl
theorem q_555 : (Jvm.Cond.selects "java/lang/IllegalStateException" ({ cls := "java/lang/Throwable", name := "fillInStackTrace", desc := "(I)Ljava/lang/Throwable;" } : Jvm.MethodName) ({ cls := "java/lang/Throwable", name := "fillInStackTrace", desc := "(I)Ljava/lang/Throwable;" } : Jvm.MethodName)) ∈ fm_T0 := fm_T0_3 75 rfl rfl
theorem q_556 : (Jvm.Cond.lays "java/lang/IllegalStateException" "java/lang/Throwable" "cause" "Ljava/lang/Throwable;") ∈ fm_T0 := fm_T0_3 76 rfl rfl
theorem q_557 : (Jvm.Cond.lays "java/lang/IllegalStateException" "java/lang/Throwable" "stackTrace" "[Ljava/lang/StackTraceElement;") ∈ fm_T0 := fm_T0_3 77 rfl rfl
theorem q_558 : (Jvm.Cond.lays "java/lang/IllegalStateException" "java/lang/Throwable" "suppressedExceptions" "Ljava/util/List;") ∈ fm_T0 := fm_T0_3 78 rfl rfl
theorem q_559 : (Jvm.Cond.lays "java/lang/IllegalStateException" "java/lang/Throwable" "detailMessage" "Ljava/lang/String;") ∈ fm_T0 := fm_T0_3 79 rfl rfl
theorem q_560 : (Jvm.Cond.lays "java/lang/IllegalStateException" "java/lang/Throwable" "backtrace" "Ljava/lang/Object;") ∈ fm_T0 := fm_T0_3 80 rfl rfl
theorem q_561 : (Jvm.Cond.methodLink "AgentNet" (82 : Nat) ({ cls := "java/lang/IllegalStateException", name := "<init>", desc := "()V" } : Jvm.MethodName)) ∈ fm_T0 := fm_T0_3 81 rfl rfl
theorem q_562 : (Jvm.Cond.instanceMethod ({ cls := "java/lang/IllegalStateException", name := "<init>", desc := "()V" } : Jvm.MethodName)) ∈ fm_T0 := fm_T0_3 82 rfl rfl
theorem q_563 : (Jvm.Cond.code ({ cls := "java/lang/IllegalStateException", name := "<init>", desc := "()V" } : Jvm.MethodName) prog_16_method_1_code (1 : Nat) (Option.none : Option Jvm.ClassFile.FieldType)) ∈ fm_T0 := fm_T0_3 83 rfl rfl
theorem q_564 : (Jvm.Cond.methodLink "java/lang/IllegalStateException" (1 : Nat) ({ cls := "java/lang/RuntimeException", name := "<init>", desc := "()V" } : Jvm.MethodName)) ∈ fm_T0 := fm_T0_3 84 rfl rfl
theorem q_565 : (Jvm.Cond.lays "java/lang/IllegalStateException" "java/lang/Throwable" "depth" "I") ∈ fm_T0 := fm_T0_3 85 rfl rfl
theorem q_567 : (Jvm.Cond.methodLink "AgentNet" (93 : Nat) ({ cls := "AgentNet$Traveller", name := "begin", desc := "(III)V" } : Jvm.MethodName)) ∈ fm_T0 := fm_T0_3 87 rfl rfl
theorem q_568 : (Jvm.Cond.instanceMethod ({ cls := "AgentNet$Traveller", name := "begin", desc := "(III)V" } : Jvm.MethodName)) ∈ fm_T0 := fm_T0_3 88 rfl rfl
theorem q_569 : (Jvm.Cond.selects "AgentNet$Traveller" ({ cls := "AgentNet$Traveller", name := "begin", desc := "(III)V" } : Jvm.MethodName) ({ cls := "AgentNet$Traveller", name := "begin", desc := "(III)V" } : Jvm.MethodName)) ∈ fm_T0 := fm_T0_3 89 rfl rfl
theorem q_570 : (Jvm.Cond.code ({ cls := "AgentNet$Traveller", name := "begin", desc := "(III)V" } : Jvm.MethodName) prog_10_method_2_code (4 : Nat) (Option.none : Option Jvm.ClassFile.FieldType)) ∈ fm_T0 := fm_T0_3 90 rfl rfl
theorem q_571 : (Jvm.Cond.methodLink "AgentNet" (99 : Nat) ({ cls := "AgentNet$Memory", name := "settle", desc := "(II)V" } : Jvm.MethodName)) ∈ fm_T0 := fm_T0_3 91 rfl rfl
theorem q_572 : (Jvm.Cond.instanceMethod ({ cls := "AgentNet$Memory", name := "settle", desc := "(II)V" } : Jvm.MethodName)) ∈ fm_T0 := fm_T0_3 92 rfl rfl
theorem q_573 : (Jvm.Cond.selects "AgentNet$Memory" ({ cls := "AgentNet$Memory", name := "settle", desc := "(II)V" } : Jvm.MethodName) ({ cls := "AgentNet$Memory", name := "settle", desc := "(II)V" } : Jvm.MethodName)) ∈ fm_T0 := fm_T0_3 93 rfl rfl
theorem q_574 : (Jvm.Cond.code ({ cls := "AgentNet$Memory", name := "settle", desc := "(II)V" } : Jvm.MethodName) prog_3_method_3_code (3 : Nat) (Option.none : Option Jvm.ClassFile.FieldType)) ∈ fm_T0 := fm_T0_3 94 rfl rfl
theorem q_575 : (Jvm.Cond.methodLink "AgentNet$Memory" (57 : Nat) ({ cls := "java/lang/Math", name := "max", desc := "(II)I" } : Jvm.MethodName)) ∈ fm_T0 := fm_T0_3 95 rfl rfl
theorem q_576 : (Jvm.Cond.methodLink "AgentNet" (103 : Nat) ({ cls := "AgentNet$FreeRun", name := "follow", desc := "(LAgentNet$Traveller;ILAgentNet$Processor;[LAgentNet$Script;[[I)V" } : Jvm.MethodName)) ∈ fm_T0 := fm_T0_3 96 rfl rfl
theorem q_577 : (Jvm.Cond.instanceMethod ({ cls := "AgentNet$FreeRun", name := "follow", desc := "(LAgentNet$Traveller;ILAgentNet$Processor;[LAgentNet$Script;[[I)V" } : Jvm.MethodName)) ∈ fm_T0 := fm_T0_3 97 rfl rfl
theorem q_578 : (Jvm.Cond.selects "AgentNet$FreeRun" ({ cls := "AgentNet$FreeRun", name := "follow", desc := "(LAgentNet$Traveller;ILAgentNet$Processor;[LAgentNet$Script;[[I)V" } : Jvm.MethodName) ({ cls := "AgentNet$FreeRun", name := "follow", desc := "(LAgentNet$Traveller;ILAgentNet$Processor;[LAgentNet$Script;[[I)V" } : Jvm.MethodName)) ∈ fm_T0 := fm_T0_3 98 rfl rfl
theorem q_579 : (Jvm.Cond.code ({ cls := "AgentNet$FreeRun", name := "follow", desc := "(LAgentNet$Traveller;ILAgentNet$Processor;[LAgentNet$Script;[[I)V" } : Jvm.MethodName) prog_2_method_2_code (6 : Nat) (Option.none : Option Jvm.ClassFile.FieldType)) ∈ fm_T0 := fm_T0_3 99 rfl rfl
theorem q_580 : (Jvm.Cond.methodLink "AgentNet$FreeRun" (36 : Nat) ({ cls := "AgentNet$Traveller", name := "copyFrom", desc := "(LAgentNet$Traveller;)V" } : Jvm.MethodName)) ∈ fm_T0 := fm_T0_3 100 rfl rfl
theorem q_581 : (Jvm.Cond.instanceMethod ({ cls := "AgentNet$Traveller", name := "copyFrom", desc := "(LAgentNet$Traveller;)V" } : Jvm.MethodName)) ∈ fm_T0 := fm_T0_3 101 rfl rfl
theorem q_582 : (Jvm.Cond.selects "AgentNet$Traveller" ({ cls := "AgentNet$Traveller", name := "copyFrom", desc := "(LAgentNet$Traveller;)V" } : Jvm.MethodName) ({ cls := "AgentNet$Traveller", name := "copyFrom", desc := "(LAgentNet$Traveller;)V" } : Jvm.MethodName)) ∈ fm_T0 := fm_T0_3 102 rfl rfl
theorem q_583 : (Jvm.Cond.code ({ cls := "AgentNet$Traveller", name := "copyFrom", desc := "(LAgentNet$Traveller;)V" } : Jvm.MethodName) prog_10_method_3_code (2 : Nat) (Option.none : Option Jvm.ClassFile.FieldType)) ∈ fm_T0 := fm_T0_3 103 rfl rfl
theorem q_584 : (Jvm.Cond.methodLink "AgentNet$Traveller" (53 : Nat) ({ cls := "java/lang/System", name := "arraycopy", desc := "(Ljava/lang/Object;ILjava/lang/Object;II)V" } : Jvm.MethodName)) ∈ fm_T0 := fm_T0_3 104 rfl rfl
theorem q_585 : (Jvm.Cond.static ({ cls := "java/lang/System", name := "arraycopy", desc := "(Ljava/lang/Object;ILjava/lang/Object;II)V" } : Jvm.MethodName)) ∈ fm_T0 := fm_T0_3 105 rfl rfl
theorem q_587 : (Jvm.Cond.methodLink "AgentNet$FreeRun" (43 : Nat) ({ cls := "AgentNet$FreeRun", name := "runAlone", desc := "(LAgentNet$Traveller;ILAgentNet$Processor;LAgentNet$Script;[[I)V" } : Jvm.MethodName)) ∈ fm_T0 := fm_T0_3 107 rfl rfl
theorem q_589 : (Jvm.Cond.instanceMethod ({ cls := "AgentNet$FreeRun", name := "runAlone", desc := "(LAgentNet$Traveller;ILAgentNet$Processor;LAgentNet$Script;[[I)V" } : Jvm.MethodName)) ∈ fm_T0 := fm_T0_3 109 rfl rfl
theorem q_590 : (Jvm.Cond.code ({ cls := "AgentNet$FreeRun", name := "runAlone", desc := "(LAgentNet$Traveller;ILAgentNet$Processor;LAgentNet$Script;[[I)V" } : Jvm.MethodName) prog_2_method_3_code (9 : Nat) (Option.none : Option Jvm.ClassFile.FieldType)) ∈ fm_T0 := fm_T0_3 110 rfl rfl
theorem q_591 : (Jvm.Cond.methodLink "AgentNet$FreeRun" (57 : Nat) ({ cls := "AgentNet$Processor", name := "perform", desc := "(LAgentNet$Traveller;LAgentNet$Script;[II)I" } : Jvm.MethodName)) ∈ fm_T0 := fm_T0_3 111 rfl rfl
theorem q_592 : (Jvm.Cond.instanceMethod ({ cls := "AgentNet$Processor", name := "perform", desc := "(LAgentNet$Traveller;LAgentNet$Script;[II)I" } : Jvm.MethodName)) ∈ fm_T0 := fm_T0_3 112 rfl rfl
theorem q_593 : (Jvm.Cond.selects "AgentNet$Processor" ({ cls := "AgentNet$Processor", name := "perform", desc := "(LAgentNet$Traveller;LAgentNet$Script;[II)I" } : Jvm.MethodName) ({ cls := "AgentNet$Processor", name := "perform", desc := "(LAgentNet$Traveller;LAgentNet$Script;[II)I" } : Jvm.MethodName)) ∈ fm_T0 := fm_T0_3 113 rfl rfl
theorem q_594 : (Jvm.Cond.code ({ cls := "AgentNet$Processor", name := "perform", desc := "(LAgentNet$Traveller;LAgentNet$Script;[II)I" } : Jvm.MethodName) prog_6_method_2_code (6 : Nat) (Option.some Jvm.ClassFile.FieldType.int)) ∈ fm_T0 := fm_T0_3 114 rfl rfl
theorem q_595 : (Jvm.Cond.methodLink "AgentNet$Processor" (40 : Nat) ({ cls := "AgentNet$Processor", name := "read", desc := "(LAgentNet$Traveller;LAgentNet$Script;)Z" } : Jvm.MethodName)) ∈ fm_T0 := fm_T0_3 115 rfl rfl
theorem q_597 : (Jvm.Cond.instanceMethod ({ cls := "AgentNet$Processor", name := "read", desc := "(LAgentNet$Traveller;LAgentNet$Script;)Z" } : Jvm.MethodName)) ∈ fm_T0 := fm_T0_3 117 rfl rfl
theorem q_598 : (Jvm.Cond.code ({ cls := "AgentNet$Processor", name := "read", desc := "(LAgentNet$Traveller;LAgentNet$Script;)Z" } : Jvm.MethodName) prog_6_method_3_code (3 : Nat) (Option.some Jvm.ClassFile.FieldType.boolean)) ∈ fm_T0 := fm_T0_3 118 rfl rfl
theorem q_599 : (Jvm.Cond.methodLink "AgentNet$Processor" (76 : Nat) ({ cls := "AgentNet$Script", name := "at", desc := "(I)I" } : Jvm.MethodName)) ∈ fm_T0 := fm_T0_3 119 rfl rfl
theorem q_600 : (Jvm.Cond.instanceMethod ({ cls := "AgentNet$Script", name := "at", desc := "(I)I" } : Jvm.MethodName)) ∈ fm_T0 := fm_T0_3 120 rfl rfl
theorem q_601 : (Jvm.Cond.selects "AgentNet$Script" ({ cls := "AgentNet$Script", name := "at", desc := "(I)I" } : Jvm.MethodName) ({ cls := "AgentNet$Script", name := "at", desc := "(I)I" } : Jvm.MethodName)) ∈ fm_T0 := fm_T0_3 121 rfl rfl
theorem q_602 : (Jvm.Cond.code ({ cls := "AgentNet$Script", name := "at", desc := "(I)I" } : Jvm.MethodName) prog_8_method_3_code (2 : Nat) (Option.some Jvm.ClassFile.FieldType.int)) ∈ fm_T0 := fm_T0_3 122 rfl rfl
theorem q_603 : (Jvm.Cond.fieldLink "AgentNet$Processor" (54 : Nat) "AgentNet$Processor" "SIZES" "[I") ∈ fm_T0 := fm_T0_3 123 rfl rfl
theorem q_605 : (Jvm.Cond.methodLink "AgentNet$Processor" (44 : Nat) ({ cls := "AgentNet$Processor", name := "takesFit", desc := "(LAgentNet$Traveller;)Z" } : Jvm.MethodName)) ∈ fm_T0 := fm_T0_3 125 rfl rfl
theorem q_607 : (Jvm.Cond.instanceMethod ({ cls := "AgentNet$Processor", name := "takesFit", desc := "(LAgentNet$Traveller;)Z" } : Jvm.MethodName)) ∈ fm_T0 := fm_T0_3 127 rfl rfl
theorem q_608 : (Jvm.Cond.code ({ cls := "AgentNet$Processor", name := "takesFit", desc := "(LAgentNet$Traveller;)Z" } : Jvm.MethodName) prog_6_method_4_code (3 : Nat) (Option.some Jvm.ClassFile.FieldType.boolean)) ∈ fm_T0 := fm_T0_3 128 rfl rfl
theorem q_609 : (Jvm.Cond.fieldLink "AgentNet$Processor" (61 : Nat) "AgentNet$Processor" "TAKES" "[I") ∈ fm_T0 := fm_T0_3 129 rfl rfl
theorem q_611 : (Jvm.Cond.fieldLink "AgentNet$Processor" (82 : Nat) "AgentNet$Processor" "GIVES" "[I") ∈ fm_T0 := fm_T0_3 131 rfl rfl
theorem q_613 : (Jvm.Cond.fieldLink "AgentNet$Processor" (89 : Nat) "AgentNet$Processor" "LOWER" "[I") ∈ fm_T0 := fm_T0_3 133 rfl rfl
theorem q_615 : (Jvm.Cond.methodLink "AgentNet$Processor" (92 : Nat) ({ cls := "AgentNet$Processor", name := "isOfKind", desc := "(JI)Z" } : Jvm.MethodName)) ∈ fm_T0 := fm_T0_3 135 rfl rfl
theorem q_616 : (Jvm.Cond.static ({ cls := "AgentNet$Processor", name := "isOfKind", desc := "(JI)Z" } : Jvm.MethodName)) ∈ fm_T0 := fm_T0_3 136 rfl rfl
theorem q_617 : (Jvm.Cond.code ({ cls := "AgentNet$Processor", name := "isOfKind", desc := "(JI)Z" } : Jvm.MethodName) prog_6_method_5_code (3 : Nat) (Option.some Jvm.ClassFile.FieldType.boolean)) ∈ fm_T0 := fm_T0_3 137 rfl rfl
theorem q_619 : (Jvm.Cond.fieldLink "AgentNet$Processor" (96 : Nat) "AgentNet$Processor" "UPPER" "[I") ∈ fm_T0 := fm_T0_3 139 rfl rfl
theorem q_621 : (Jvm.Cond.methodLink "AgentNet$Processor" (48 : Nat) ({ cls := "AgentNet$Processor", name := "boundsFit", desc := "(LAgentNet$Traveller;)Z" } : Jvm.MethodName)) ∈ fm_T0 := fm_T0_3 141 rfl rfl
theorem q_623 : (Jvm.Cond.instanceMethod ({ cls := "AgentNet$Processor", name := "boundsFit", desc := "(LAgentNet$Traveller;)Z" } : Jvm.MethodName)) ∈ fm_T0 := fm_T0_3 143 rfl rfl
theorem q_624 : (Jvm.Cond.code ({ cls := "AgentNet$Processor", name := "boundsFit", desc := "(LAgentNet$Traveller;)Z" } : Jvm.MethodName) prog_6_method_6_code (2 : Nat) (Option.some Jvm.ClassFile.FieldType.boolean)) ∈ fm_T0 := fm_T0_3 144 rfl rfl
theorem q_625 : (Jvm.Cond.constantLong "AgentNet$Processor" (106 : Nat) (4 : Int64)) ∈ fm_T0 := fm_T0_3 145 rfl rfl
theorem q_626 : (Jvm.Cond.constantLong "AgentNet$Processor" (108 : Nat) (20 : Int64)) ∈ fm_T0 := fm_T0_3 146 rfl rfl
theorem q_627 : (Jvm.Cond.methodLink "AgentNet$Processor" (64 : Nat) ({ cls := "AgentNet$Processor", name := "doPairs", desc := "(LAgentNet$Traveller;)I" } : Jvm.MethodName)) ∈ fm_T0 := fm_T0_3 147 rfl rfl
theorem q_629 : (Jvm.Cond.instanceMethod ({ cls := "AgentNet$Processor", name := "doPairs", desc := "(LAgentNet$Traveller;)I" } : Jvm.MethodName)) ∈ fm_T0 := fm_T0_3 149 rfl rfl
theorem q_630 : (Jvm.Cond.code ({ cls := "AgentNet$Processor", name := "doPairs", desc := "(LAgentNet$Traveller;)I" } : Jvm.MethodName) prog_6_method_8_code (3 : Nat) (Option.some Jvm.ClassFile.FieldType.int)) ∈ fm_T0 := fm_T0_3 150 rfl rfl
theorem q_631 : (Jvm.Cond.constantLong "AgentNet$Processor" (130 : Nat) (1099511627776 : Int64)) ∈ fm_T0 := fm_T0_3 151 rfl rfl
theorem q_632 : (Jvm.Cond.methodLink "AgentNet$Processor" (132 : Nat) ({ cls := "AgentNet$Traveller", name := "pushPair", desc := "(JJ)V" } : Jvm.MethodName)) ∈ fm_T0 := fm_T0_3 152 rfl rfl
theorem q_633 : (Jvm.Cond.instanceMethod ({ cls := "AgentNet$Traveller", name := "pushPair", desc := "(JJ)V" } : Jvm.MethodName)) ∈ fm_T0 := fm_T0_3 153 rfl rfl
theorem q_634 : (Jvm.Cond.selects "AgentNet$Traveller" ({ cls := "AgentNet$Traveller", name := "pushPair", desc := "(JJ)V" } : Jvm.MethodName) ({ cls := "AgentNet$Traveller", name := "pushPair", desc := "(JJ)V" } : Jvm.MethodName)) ∈ fm_T0 := fm_T0_3 154 rfl rfl
theorem q_635 : (Jvm.Cond.code ({ cls := "AgentNet$Traveller", name := "pushPair", desc := "(JJ)V" } : Jvm.MethodName) prog_10_method_6_code (5 : Nat) (Option.none : Option Jvm.ClassFile.FieldType)) ∈ fm_T0 := fm_T0_3 155 rfl rfl
theorem q_636 : (Jvm.Cond.constantLong "AgentNet$Traveller" (63 : Nat) (1099511627776 : Int64)) ∈ fm_T0 := fm_T0_3 156 rfl rfl
theorem q_637 : (Jvm.Cond.methodLink "AgentNet$Traveller" (65 : Nat) ({ cls := "AgentNet$Traveller", name := "push", desc := "(J)V" } : Jvm.MethodName)) ∈ fm_T0 := fm_T0_3 157 rfl rfl
theorem q_638 : (Jvm.Cond.instanceMethod ({ cls := "AgentNet$Traveller", name := "push", desc := "(J)V" } : Jvm.MethodName)) ∈ fm_T0 := fm_T0_3 158 rfl rfl
theorem q_639 : (Jvm.Cond.selects "AgentNet$Traveller" ({ cls := "AgentNet$Traveller", name := "push", desc := "(J)V" } : Jvm.MethodName) ({ cls := "AgentNet$Traveller", name := "push", desc := "(J)V" } : Jvm.MethodName)) ∈ fm_T0 := fm_T0_3 159 rfl rfl
theorem q_640 : (Jvm.Cond.code ({ cls := "AgentNet$Traveller", name := "push", desc := "(J)V" } : Jvm.MethodName) prog_10_method_5_code (3 : Nat) (Option.none : Option Jvm.ClassFile.FieldType)) ∈ fm_T0 := fm_T0_3 160 rfl rfl
theorem q_641 : (Jvm.Cond.methodLink "AgentNet$Processor" (113 : Nat) ({ cls := "AgentNet$Traveller", name := "push", desc := "(J)V" } : Jvm.MethodName)) ∈ fm_T0 := fm_T0_3 161 rfl rfl
theorem q_642 : (Jvm.Cond.methodLink "AgentNet$Processor" (68 : Nat) ({ cls := "AgentNet$Processor", name := "doPlain", desc := "(LAgentNet$Traveller;[II)I" } : Jvm.MethodName)) ∈ fm_T0 := fm_T0_3 162 rfl rfl
theorem q_644 : (Jvm.Cond.instanceMethod ({ cls := "AgentNet$Processor", name := "doPlain", desc := "(LAgentNet$Traveller;[II)I" } : Jvm.MethodName)) ∈ fm_T0 := fm_T0_3 164 rfl rfl
theorem q_645 : (Jvm.Cond.code ({ cls := "AgentNet$Processor", name := "doPlain", desc := "(LAgentNet$Traveller;[II)I" } : Jvm.MethodName) prog_6_method_7_code (4 : Nat) (Option.some Jvm.ClassFile.FieldType.int)) ∈ fm_T0 := fm_T0_3 165 rfl rfl
theorem q_646 : (Jvm.Cond.methodLink "AgentNet$Processor" (117 : Nat) ({ cls := "AgentNet$Processor", name := "say", desc := "(LAgentNet$Traveller;)I" } : Jvm.MethodName)) ∈ fm_T0 := fm_T0_3 166 rfl rfl
theorem q_648 : (Jvm.Cond.instanceMethod ({ cls := "AgentNet$Processor", name := "say", desc := "(LAgentNet$Traveller;)I" } : Jvm.MethodName)) ∈ fm_T0 := fm_T0_3 168 rfl rfl
theorem q_649 : (Jvm.Cond.code ({ cls := "AgentNet$Processor", name := "say", desc := "(LAgentNet$Traveller;)I" } : Jvm.MethodName) prog_6_method_9_code (2 : Nat) (Option.some Jvm.ClassFile.FieldType.int)) ∈ fm_T0 := fm_T0_3 169 rfl rfl
theorem q_650 : (Jvm.Cond.methodLink "AgentNet$Processor" (120 : Nat) ({ cls := "AgentNet$Processor", name := "go", desc := "(LAgentNet$Traveller;I)I" } : Jvm.MethodName)) ∈ fm_T0 := fm_T0_3 170 rfl rfl
theorem q_652 : (Jvm.Cond.instanceMethod ({ cls := "AgentNet$Processor", name := "go", desc := "(LAgentNet$Traveller;I)I" } : Jvm.MethodName)) ∈ fm_T0 := fm_T0_3 172 rfl rfl
theorem q_653 : (Jvm.Cond.code ({ cls := "AgentNet$Processor", name := "go", desc := "(LAgentNet$Traveller;I)I" } : Jvm.MethodName) prog_6_method_10_code (3 : Nat) (Option.some Jvm.ClassFile.FieldType.int)) ∈ fm_T0 := fm_T0_3 173 rfl rfl
theorem q_654 : (Jvm.Cond.methodLink "AgentNet$Processor" (124 : Nat) ({ cls := "AgentNet$Processor", name := "divide", desc := "(LAgentNet$Traveller;)I" } : Jvm.MethodName)) ∈ fm_T0 := fm_T0_3 174 rfl rfl
theorem q_656 : (Jvm.Cond.instanceMethod ({ cls := "AgentNet$Processor", name := "divide", desc := "(LAgentNet$Traveller;)I" } : Jvm.MethodName)) ∈ fm_T0 := fm_T0_3 176 rfl rfl
theorem q_657 : (Jvm.Cond.code ({ cls := "AgentNet$Processor", name := "divide", desc := "(LAgentNet$Traveller;)I" } : Jvm.MethodName) prog_6_method_11_code (2 : Nat) (Option.some Jvm.ClassFile.FieldType.int)) ∈ fm_T0 := fm_T0_3 177 rfl rfl
theorem q_658 : (Jvm.Cond.constantLong "AgentNet$Processor" (152 : Nat) (-1 : Int64)) ∈ fm_T0 := fm_T0_3 178 rfl rfl
theorem q_659 : (Jvm.Cond.methodLink "AgentNet$Processor" (72 : Nat) ({ cls := "AgentNet$Numbering", name := "renumber", desc := "(LAgentNet$Traveller;)V" } : Jvm.MethodName)) ∈ fm_T0 := fm_T0_3 179 rfl rfl
theorem q_660 : (Jvm.Cond.instanceMethod ({ cls := "AgentNet$Numbering", name := "renumber", desc := "(LAgentNet$Traveller;)V" } : Jvm.MethodName)) ∈ fm_T0 := fm_T0_3 180 rfl rfl
theorem q_661 : (Jvm.Cond.selects "AgentNet$Numbering" ({ cls := "AgentNet$Numbering", name := "renumber", desc := "(LAgentNet$Traveller;)V" } : Jvm.MethodName) ({ cls := "AgentNet$Numbering", name := "renumber", desc := "(LAgentNet$Traveller;)V" } : Jvm.MethodName)) ∈ fm_T0 := fm_T0_3 181 rfl rfl
theorem q_662 : (Jvm.Cond.code ({ cls := "AgentNet$Numbering", name := "renumber", desc := "(LAgentNet$Traveller;)V" } : Jvm.MethodName) prog_5_method_2_code (3 : Nat) (Option.none : Option Jvm.ClassFile.FieldType)) ∈ fm_T0 := fm_T0_3 182 rfl rfl
theorem q_663 : (Jvm.Cond.methodLink "AgentNet$Numbering" (34 : Nat) ({ cls := "java/util/Arrays", name := "fill", desc := "([II)V" } : Jvm.MethodName)) ∈ fm_T0 := fm_T0_3 183 rfl rfl
theorem q_664 : (Jvm.Cond.methodLink "AgentNet$Numbering" (46 : Nat) ({ cls := "AgentNet$Numbering", name := "renamed", desc := "(J)J" } : Jvm.MethodName)) ∈ fm_T0 := fm_T0_3 184 rfl rfl
theorem q_666 : (Jvm.Cond.instanceMethod ({ cls := "AgentNet$Numbering", name := "renamed", desc := "(J)J" } : Jvm.MethodName)) ∈ fm_T0 := fm_T0_3 186 rfl rfl
theorem q_667 : (Jvm.Cond.code ({ cls := "AgentNet$Numbering", name := "renamed", desc := "(J)J" } : Jvm.MethodName) prog_5_method_3_code (4 : Nat) (Option.some Jvm.ClassFile.FieldType.long)) ∈ fm_T0 := fm_T0_3 187 rfl rfl
theorem q_669 : (Jvm.Cond.constantLong "AgentNet$Numbering" (62 : Nat) (1099511627776 : Int64)) ∈ fm_T0 := fm_T0_3 189 rfl rfl
theorem q_670 : (Jvm.Cond.methodLink "AgentNet$Numbering" (52 : Nat) ({ cls := "java/lang/System", name := "arraycopy", desc := "(Ljava/lang/Object;ILjava/lang/Object;II)V" } : Jvm.MethodName)) ∈ fm_T0 := fm_T0_3 190 rfl rfl
theorem q_671 : (Jvm.Cond.methodLink "AgentNet$FreeRun" (69 : Nat) ({ cls := "AgentNet$Sayings", name := "put", desc := "(III)V" } : Jvm.MethodName)) ∈ fm_T0 := fm_T0_3 191 rfl rfl
theorem q_672 : (Jvm.Cond.instanceMethod ({ cls := "AgentNet$Sayings", name := "put", desc := "(III)V" } : Jvm.MethodName)) ∈ fm_T0 := fm_T0_3 192 rfl rfl
theorem q_673 : (Jvm.Cond.selects "AgentNet$Sayings" ({ cls := "AgentNet$Sayings", name := "put", desc := "(III)V" } : Jvm.MethodName) ({ cls := "AgentNet$Sayings", name := "put", desc := "(III)V" } : Jvm.MethodName)) ∈ fm_T0 := fm_T0_3 193 rfl rfl
theorem q_674 : (Jvm.Cond.code ({ cls := "AgentNet$Sayings", name := "put", desc := "(III)V" } : Jvm.MethodName) prog_7_method_2_code (4 : Nat) (Option.none : Option Jvm.ClassFile.FieldType)) ∈ fm_T0 := fm_T0_3 194 rfl rfl
theorem q_675 : (Jvm.Cond.methodLink "AgentNet$FreeRun" (73 : Nat) ({ cls := "AgentNet$Traveller", name := "becomeChildOf", desc := "(LAgentNet$Traveller;I)V" } : Jvm.MethodName)) ∈ fm_T0 := fm_T0_3 195 rfl rfl
theorem q_676 : (Jvm.Cond.instanceMethod ({ cls := "AgentNet$Traveller", name := "becomeChildOf", desc := "(LAgentNet$Traveller;I)V" } : Jvm.MethodName)) ∈ fm_T0 := fm_T0_3 196 rfl rfl
theorem q_677 : (Jvm.Cond.selects "AgentNet$Traveller" ({ cls := "AgentNet$Traveller", name := "becomeChildOf", desc := "(LAgentNet$Traveller;I)V" } : Jvm.MethodName) ({ cls := "AgentNet$Traveller", name := "becomeChildOf", desc := "(LAgentNet$Traveller;I)V" } : Jvm.MethodName)) ∈ fm_T0 := fm_T0_3 197 rfl rfl
theorem q_678 : (Jvm.Cond.code ({ cls := "AgentNet$Traveller", name := "becomeChildOf", desc := "(LAgentNet$Traveller;I)V" } : Jvm.MethodName) prog_10_method_4_code (3 : Nat) (Option.none : Option Jvm.ClassFile.FieldType)) ∈ fm_T0 := fm_T0_3 198 rfl rfl
theorem q_679 : (Jvm.Cond.methodLink "AgentNet$Traveller" (59 : Nat) ({ cls := "AgentNet$Traveller", name := "copyFrom", desc := "(LAgentNet$Traveller;)V" } : Jvm.MethodName)) ∈ fm_T0 := fm_T0_3 199 rfl rfl
theorem q_680 : (Jvm.Cond.methodLink "AgentNetLaw" (69 : Nat) ({ cls := "AgentNetLaw", name := "step", desc := "(LAgentNet;II[J)I" } : Jvm.MethodName)) ∈ fm_T0 := fm_T0_3 200 rfl rfl
theorem q_681 : (Jvm.Cond.static ({ cls := "AgentNetLaw", name := "step", desc := "(LAgentNet;II[J)I" } : Jvm.MethodName)) ∈ fm_T0 := fm_T0_3 201 rfl rfl
theorem q_683 : (Jvm.Cond.methodLink "AgentNetLaw" (17 : Nat) ({ cls := "AgentNet", name := "step", desc := "(II)I" } : Jvm.MethodName)) ∈ fm_T0 := fm_T0_3 203 rfl rfl
theorem q_684 : (Jvm.Cond.instanceMethod ({ cls := "AgentNet", name := "step", desc := "(II)I" } : Jvm.MethodName)) ∈ fm_T0 := fm_T0_3 204 rfl rfl
theorem q_685 : (Jvm.Cond.selects "AgentNet" ({ cls := "AgentNet", name := "step", desc := "(II)I" } : Jvm.MethodName) ({ cls := "AgentNet", name := "step", desc := "(II)I" } : Jvm.MethodName)) ∈ fm_T0 := fm_T0_3 205 rfl rfl
theorem q_686 : (Jvm.Cond.code ({ cls := "AgentNet", name := "step", desc := "(II)I" } : Jvm.MethodName) prog_1_method_5_code (5 : Nat) (Option.some Jvm.ClassFile.FieldType.int)) ∈ fm_T0 := fm_T0_3 206 rfl rfl
theorem q_687 : (Jvm.Cond.methodLink "AgentNet" (107 : Nat) ({ cls := "AgentNet", name := "round", desc := "(I)I" } : Jvm.MethodName)) ∈ fm_T0 := fm_T0_3 207 rfl rfl
theorem q_689 : (Jvm.Cond.instanceMethod ({ cls := "AgentNet", name := "round", desc := "(I)I" } : Jvm.MethodName)) ∈ fm_T0 := fm_T0_3 209 rfl rfl
theorem q_690 : (Jvm.Cond.code ({ cls := "AgentNet", name := "round", desc := "(I)I" } : Jvm.MethodName) prog_1_method_21_code (8 : Nat) (Option.some Jvm.ClassFile.FieldType.int)) ∈ fm_T0 := fm_T0_3 210 rfl rfl
theorem q_691 : (Jvm.Cond.methodLink "AgentNet" (208 : Nat) ({ cls := "AgentNet$Memory", name := "running", desc := "()I" } : Jvm.MethodName)) ∈ fm_T0 := fm_T0_3 211 rfl rfl
theorem q_692 : (Jvm.Cond.instanceMethod ({ cls := "AgentNet$Memory", name := "running", desc := "()I" } : Jvm.MethodName)) ∈ fm_T0 := fm_T0_3 212 rfl rfl
theorem q_693 : (Jvm.Cond.selects "AgentNet$Memory" ({ cls := "AgentNet$Memory", name := "running", desc := "()I" } : Jvm.MethodName) ({ cls := "AgentNet$Memory", name := "running", desc := "()I" } : Jvm.MethodName)) ∈ fm_T0 := fm_T0_3 213 rfl rfl
theorem q_694 : (Jvm.Cond.code ({ cls := "AgentNet$Memory", name := "running", desc := "()I" } : Jvm.MethodName) prog_3_method_5_code (3 : Nat) (Option.some Jvm.ClassFile.FieldType.int)) ∈ fm_T0 := fm_T0_3 214 rfl rfl
theorem q_695 : (Jvm.Cond.methodLink "AgentNet" (220 : Nat) ({ cls := "AgentNet$Processor", name := "perform", desc := "(LAgentNet$Traveller;LAgentNet$Script;[II)I" } : Jvm.MethodName)) ∈ fm_T0 := fm_T0_3 215 rfl rfl
theorem q_696 : (Jvm.Cond.methodLink "AgentNet" (227 : Nat) ({ cls := "AgentNet$Memory", name := "grant", desc := "(III)V" } : Jvm.MethodName)) ∈ fm_T0 := fm_T0_3 216 rfl rfl
theorem q_697 : (Jvm.Cond.instanceMethod ({ cls := "AgentNet$Memory", name := "grant", desc := "(III)V" } : Jvm.MethodName)) ∈ fm_T0 := fm_T0_3 217 rfl rfl
theorem q_698 : (Jvm.Cond.selects "AgentNet$Memory" ({ cls := "AgentNet$Memory", name := "grant", desc := "(III)V" } : Jvm.MethodName) ({ cls := "AgentNet$Memory", name := "grant", desc := "(III)V" } : Jvm.MethodName)) ∈ fm_T0 := fm_T0_3 218 rfl rfl
theorem q_699 : (Jvm.Cond.code ({ cls := "AgentNet$Memory", name := "grant", desc := "(III)V" } : Jvm.MethodName) prog_3_method_4_code (4 : Nat) (Option.none : Option Jvm.ClassFile.FieldType)) ∈ fm_T0 := fm_T0_3 219 rfl rfl
theorem q_700 : (Jvm.Cond.methodLink "AgentNet$Memory" (67 : Nat) ({ cls := "AgentNet$Sayings", name := "put", desc := "(III)V" } : Jvm.MethodName)) ∈ fm_T0 := fm_T0_3 220 rfl rfl
theorem q_701 : (Jvm.Cond.methodLink "AgentNet$Memory" (71 : Nat) ({ cls := "AgentNet$Traveller", name := "becomeChildOf", desc := "(LAgentNet$Traveller;I)V" } : Jvm.MethodName)) ∈ fm_T0 := fm_T0_3 221 rfl rfl
theorem q_702 : (Jvm.Cond.methodLink "AgentNet$Memory" (75 : Nat) ({ cls := "AgentNet$Memory", name := "settle", desc := "(II)V" } : Jvm.MethodName)) ∈ fm_T0 := fm_T0_3 222 rfl rfl
theorem q_703 : (Jvm.Cond.methodLink "AgentNetLaw" (73 : Nat) ({ cls := "AgentNetLaw", name := "tick", desc := "(LAgentNet;I[J)I" } : Jvm.MethodName)) ∈ fm_T0 := fm_T0_3 223 rfl rfl
theorem q_704 : (Jvm.Cond.static ({ cls := "AgentNetLaw", name := "tick", desc := "(LAgentNet;I[J)I" } : Jvm.MethodName)) ∈ fm_T0 := fm_T0_3 224 rfl rfl
theorem q_706 : (Jvm.Cond.methodLink "AgentNetLaw" (21 : Nat) ({ cls := "AgentNet", name := "tick", desc := "(I)I" } : Jvm.MethodName)) ∈ fm_T0 := fm_T0_3 226 rfl rfl
theorem q_707 : (Jvm.Cond.instanceMethod ({ cls := "AgentNet", name := "tick", desc := "(I)I" } : Jvm.MethodName)) ∈ fm_T0 := fm_T0_3 227 rfl rfl
theorem q_708 : (Jvm.Cond.selects "AgentNet" ({ cls := "AgentNet", name := "tick", desc := "(I)I" } : Jvm.MethodName) ({ cls := "AgentNet", name := "tick", desc := "(I)I" } : Jvm.MethodName)) ∈ fm_T0 := fm_T0_3 228 rfl rfl
theorem q_709 : (Jvm.Cond.code ({ cls := "AgentNet", name := "tick", desc := "(I)I" } : Jvm.MethodName) prog_1_method_6_code (2 : Nat) (Option.some Jvm.ClassFile.FieldType.int)) ∈ fm_T0 := fm_T0_3 229 rfl rfl
theorem q_710 : (Jvm.Cond.methodLink "AgentNet" (111 : Nat) ({ cls := "AgentNet$Memory", name := "passTime", desc := "()V" } : Jvm.MethodName)) ∈ fm_T0 := fm_T0_3 230 rfl rfl
theorem q_711 : (Jvm.Cond.instanceMethod ({ cls := "AgentNet$Memory", name := "passTime", desc := "()V" } : Jvm.MethodName)) ∈ fm_T0 := fm_T0_3 231 rfl rfl
theorem q_712 : (Jvm.Cond.selects "AgentNet$Memory" ({ cls := "AgentNet$Memory", name := "passTime", desc := "()V" } : Jvm.MethodName) ({ cls := "AgentNet$Memory", name := "passTime", desc := "()V" } : Jvm.MethodName)) ∈ fm_T0 := fm_T0_3 232 rfl rfl
theorem q_713 : (Jvm.Cond.code ({ cls := "AgentNet$Memory", name := "passTime", desc := "()V" } : Jvm.MethodName) prog_3_method_9_code (2 : Nat) (Option.none : Option Jvm.ClassFile.FieldType)) ∈ fm_T0 := fm_T0_3 233 rfl rfl
theorem q_714 : (Jvm.Cond.methodLink "AgentNet" (114 : Nat) ({ cls := "AgentNet$Site", name := "sendArrivals", desc := "(LAgentNet$Wire;)V" } : Jvm.MethodName)) ∈ fm_T0 := fm_T0_3 234 rfl rfl
theorem q_715 : (Jvm.Cond.instanceMethod ({ cls := "AgentNet$Site", name := "sendArrivals", desc := "(LAgentNet$Wire;)V" } : Jvm.MethodName)) ∈ fm_T0 := fm_T0_3 235 rfl rfl
theorem q_716 : (Jvm.Cond.selects "AgentNet$Site" ({ cls := "AgentNet$Site", name := "sendArrivals", desc := "(LAgentNet$Wire;)V" } : Jvm.MethodName) ({ cls := "AgentNet$Site", name := "sendArrivals", desc := "(LAgentNet$Wire;)V" } : Jvm.MethodName)) ∈ fm_T0 := fm_T0_3 236 rfl rfl
theorem q_717 : (Jvm.Cond.code ({ cls := "AgentNet$Site", name := "sendArrivals", desc := "(LAgentNet$Wire;)V" } : Jvm.MethodName) prog_9_method_6_code (4 : Nat) (Option.none : Option Jvm.ClassFile.FieldType)) ∈ fm_T0 := fm_T0_3 237 rfl rfl
theorem q_718 : (Jvm.Cond.methodLink "AgentNet$Site" (78 : Nat) ({ cls := "AgentNet$Memory", name := "isLeaving", desc := "(II)Z" } : Jvm.MethodName)) ∈ fm_T0 := fm_T0_3 238 rfl rfl
theorem q_719 : (Jvm.Cond.instanceMethod ({ cls := "AgentNet$Memory", name := "isLeaving", desc := "(II)Z" } : Jvm.MethodName)) ∈ fm_T0 := fm_T0_3 239 rfl rfl
theorem q_720 : (Jvm.Cond.selects "AgentNet$Memory" ({ cls := "AgentNet$Memory", name := "isLeaving", desc := "(II)Z" } : Jvm.MethodName) ({ cls := "AgentNet$Memory", name := "isLeaving", desc := "(II)Z" } : Jvm.MethodName)) ∈ fm_T0 := fm_T0_4 0 rfl rfl
theorem q_721 : (Jvm.Cond.code ({ cls := "AgentNet$Memory", name := "isLeaving", desc := "(II)Z" } : Jvm.MethodName) prog_3_method_8_code (3 : Nat) (Option.some Jvm.ClassFile.FieldType.boolean)) ∈ fm_T0 := fm_T0_4 1 rfl rfl
theorem q_722 : (Jvm.Cond.methodLink "AgentNet$Site" (85 : Nat) ({ cls := "AgentNet$Wire", name := "sendArrival", desc := "(LAgentNet$Traveller;II)V" } : Jvm.MethodName)) ∈ fm_T0 := fm_T0_4 2 rfl rfl
theorem q_723 : (Jvm.Cond.instanceMethod ({ cls := "AgentNet$Wire", name := "sendArrival", desc := "(LAgentNet$Traveller;II)V" } : Jvm.MethodName)) ∈ fm_T0 := fm_T0_4 3 rfl rfl
theorem q_724 : (Jvm.Cond.selects "AgentNet$Wire" ({ cls := "AgentNet$Wire", name := "sendArrival", desc := "(LAgentNet$Traveller;II)V" } : Jvm.MethodName) ({ cls := "AgentNet$Wire", name := "sendArrival", desc := "(LAgentNet$Traveller;II)V" } : Jvm.MethodName)) ∈ fm_T0 := fm_T0_4 4 rfl rfl
theorem q_725 : (Jvm.Cond.code ({ cls := "AgentNet$Wire", name := "sendArrival", desc := "(LAgentNet$Traveller;II)V" } : Jvm.MethodName) prog_11_method_4_code (4 : Nat) (Option.none : Option Jvm.ClassFile.FieldType)) ∈ fm_T0 := fm_T0_4 5 rfl rfl
theorem q_726 : (Jvm.Cond.methodLink "AgentNet$Wire" (26 : Nat) ({ cls := "AgentNet$Wire", name := "isFull", desc := "()Z" } : Jvm.MethodName)) ∈ fm_T0 := fm_T0_4 6 rfl rfl
theorem q_727 : (Jvm.Cond.instanceMethod ({ cls := "AgentNet$Wire", name := "isFull", desc := "()Z" } : Jvm.MethodName)) ∈ fm_T0 := fm_T0_4 7 rfl rfl
theorem q_728 : (Jvm.Cond.selects "AgentNet$Wire" ({ cls := "AgentNet$Wire", name := "isFull", desc := "()Z" } : Jvm.MethodName) ({ cls := "AgentNet$Wire", name := "isFull", desc := "()Z" } : Jvm.MethodName)) ∈ fm_T0 := fm_T0_4 8 rfl rfl
theorem q_729 : (Jvm.Cond.code ({ cls := "AgentNet$Wire", name := "isFull", desc := "()Z" } : Jvm.MethodName) prog_11_method_3_code (1 : Nat) (Option.some Jvm.ClassFile.FieldType.boolean)) ∈ fm_T0 := fm_T0_4 9 rfl rfl
theorem q_730 : (Jvm.Cond.methodLink "AgentNet$Wire" (38 : Nat) ({ cls := "AgentNet$Message", name := "address", desc := "(IIII)V" } : Jvm.MethodName)) ∈ fm_T0 := fm_T0_4 10 rfl rfl
theorem q_731 : (Jvm.Cond.instanceMethod ({ cls := "AgentNet$Message", name := "address", desc := "(IIII)V" } : Jvm.MethodName)) ∈ fm_T0 := fm_T0_4 11 rfl rfl
theorem q_732 : (Jvm.Cond.selects "AgentNet$Message" ({ cls := "AgentNet$Message", name := "address", desc := "(IIII)V" } : Jvm.MethodName) ({ cls := "AgentNet$Message", name := "address", desc := "(IIII)V" } : Jvm.MethodName)) ∈ fm_T0 := fm_T0_4 12 rfl rfl
theorem q_733 : (Jvm.Cond.code ({ cls := "AgentNet$Message", name := "address", desc := "(IIII)V" } : Jvm.MethodName) prog_4_method_2_code (5 : Nat) (Option.none : Option Jvm.ClassFile.FieldType)) ∈ fm_T0 := fm_T0_4 13 rfl rfl
theorem q_734 : (Jvm.Cond.methodLink "AgentNet$Wire" (42 : Nat) ({ cls := "AgentNet$Message", name := "pack", desc := "(LAgentNet$Traveller;)V" } : Jvm.MethodName)) ∈ fm_T0 := fm_T0_4 14 rfl rfl
theorem q_735 : (Jvm.Cond.instanceMethod ({ cls := "AgentNet$Message", name := "pack", desc := "(LAgentNet$Traveller;)V" } : Jvm.MethodName)) ∈ fm_T0 := fm_T0_4 15 rfl rfl
theorem q_736 : (Jvm.Cond.selects "AgentNet$Message" ({ cls := "AgentNet$Message", name := "pack", desc := "(LAgentNet$Traveller;)V" } : Jvm.MethodName) ({ cls := "AgentNet$Message", name := "pack", desc := "(LAgentNet$Traveller;)V" } : Jvm.MethodName)) ∈ fm_T0 := fm_T0_4 16 rfl rfl
theorem q_737 : (Jvm.Cond.code ({ cls := "AgentNet$Message", name := "pack", desc := "(LAgentNet$Traveller;)V" } : Jvm.MethodName) prog_4_method_4_code (3 : Nat) (Option.none : Option Jvm.ClassFile.FieldType)) ∈ fm_T0 := fm_T0_4 17 rfl rfl
theorem q_738 : (Jvm.Cond.methodLink "AgentNet$Message" (51 : Nat) ({ cls := "AgentNet$Message", name := "put", desc := "(I)V" } : Jvm.MethodName)) ∈ fm_T0 := fm_T0_4 18 rfl rfl
theorem q_740 : (Jvm.Cond.instanceMethod ({ cls := "AgentNet$Message", name := "put", desc := "(I)V" } : Jvm.MethodName)) ∈ fm_T0 := fm_T0_4 20 rfl rfl
theorem q_741 : (Jvm.Cond.code ({ cls := "AgentNet$Message", name := "put", desc := "(I)V" } : Jvm.MethodName) prog_4_method_8_code (2 : Nat) (Option.none : Option Jvm.ClassFile.FieldType)) ∈ fm_T0 := fm_T0_4 21 rfl rfl
theorem q_742 : (Jvm.Cond.methodLink "AgentNet$Message" (81 : Nat) ({ cls := "AgentNet$Message", name := "putValue", desc := "(J)V" } : Jvm.MethodName)) ∈ fm_T0 := fm_T0_4 22 rfl rfl
theorem q_744 : (Jvm.Cond.instanceMethod ({ cls := "AgentNet$Message", name := "putValue", desc := "(J)V" } : Jvm.MethodName)) ∈ fm_T0 := fm_T0_4 24 rfl rfl
theorem q_745 : (Jvm.Cond.code ({ cls := "AgentNet$Message", name := "putValue", desc := "(J)V" } : Jvm.MethodName) prog_4_method_6_code (4 : Nat) (Option.none : Option Jvm.ClassFile.FieldType)) ∈ fm_T0 := fm_T0_4 25 rfl rfl
theorem q_747 : (Jvm.Cond.constantLong "AgentNet$Message" (112 : Nat) (1099511627776 : Int64)) ∈ fm_T0 := fm_T0_4 27 rfl rfl
theorem q_748 : (Jvm.Cond.methodLink "AgentNetLaw" (77 : Nat) ({ cls := "AgentNetLaw", name := "checkpoint", desc := "(LAgentNet;I[J)I" } : Jvm.MethodName)) ∈ fm_T0 := fm_T0_4 28 rfl rfl
theorem q_749 : (Jvm.Cond.static ({ cls := "AgentNetLaw", name := "checkpoint", desc := "(LAgentNet;I[J)I" } : Jvm.MethodName)) ∈ fm_T0 := fm_T0_4 29 rfl rfl
theorem q_751 : (Jvm.Cond.methodLink "AgentNetLaw" (25 : Nat) ({ cls := "AgentNet", name := "checkpoint", desc := "(I)I" } : Jvm.MethodName)) ∈ fm_T0 := fm_T0_4 31 rfl rfl
theorem q_752 : (Jvm.Cond.instanceMethod ({ cls := "AgentNet", name := "checkpoint", desc := "(I)I" } : Jvm.MethodName)) ∈ fm_T0 := fm_T0_4 32 rfl rfl
theorem q_753 : (Jvm.Cond.selects "AgentNet" ({ cls := "AgentNet", name := "checkpoint", desc := "(I)I" } : Jvm.MethodName) ({ cls := "AgentNet", name := "checkpoint", desc := "(I)I" } : Jvm.MethodName)) ∈ fm_T0 := fm_T0_4 33 rfl rfl
theorem q_754 : (Jvm.Cond.code ({ cls := "AgentNet", name := "checkpoint", desc := "(I)I" } : Jvm.MethodName) prog_1_method_7_code (2 : Nat) (Option.some Jvm.ClassFile.FieldType.int)) ∈ fm_T0 := fm_T0_4 34 rfl rfl
theorem q_755 : (Jvm.Cond.methodLink "AgentNet" (124 : Nat) ({ cls := "AgentNet$Site", name := "beginCopy", desc := "()I" } : Jvm.MethodName)) ∈ fm_T0 := fm_T0_4 35 rfl rfl
theorem q_756 : (Jvm.Cond.instanceMethod ({ cls := "AgentNet$Site", name := "beginCopy", desc := "()I" } : Jvm.MethodName)) ∈ fm_T0 := fm_T0_4 36 rfl rfl
theorem q_757 : (Jvm.Cond.selects "AgentNet$Site" ({ cls := "AgentNet$Site", name := "beginCopy", desc := "()I" } : Jvm.MethodName) ({ cls := "AgentNet$Site", name := "beginCopy", desc := "()I" } : Jvm.MethodName)) ∈ fm_T0 := fm_T0_4 37 rfl rfl
theorem q_758 : (Jvm.Cond.code ({ cls := "AgentNet$Site", name := "beginCopy", desc := "()I" } : Jvm.MethodName) prog_9_method_2_code (1 : Nat) (Option.some Jvm.ClassFile.FieldType.int)) ∈ fm_T0 := fm_T0_4 38 rfl rfl
theorem q_759 : (Jvm.Cond.methodLink "AgentNet$Site" (35 : Nat) ({ cls := "AgentNet$Memory", name := "copyFrom", desc := "(LAgentNet$Memory;)V" } : Jvm.MethodName)) ∈ fm_T0 := fm_T0_4 39 rfl rfl
theorem q_760 : (Jvm.Cond.instanceMethod ({ cls := "AgentNet$Memory", name := "copyFrom", desc := "(LAgentNet$Memory;)V" } : Jvm.MethodName)) ∈ fm_T0 := fm_T0_4 40 rfl rfl
theorem q_761 : (Jvm.Cond.selects "AgentNet$Memory" ({ cls := "AgentNet$Memory", name := "copyFrom", desc := "(LAgentNet$Memory;)V" } : Jvm.MethodName) ({ cls := "AgentNet$Memory", name := "copyFrom", desc := "(LAgentNet$Memory;)V" } : Jvm.MethodName)) ∈ fm_T0 := fm_T0_4 41 rfl rfl
theorem q_762 : (Jvm.Cond.code ({ cls := "AgentNet$Memory", name := "copyFrom", desc := "(LAgentNet$Memory;)V" } : Jvm.MethodName) prog_3_method_2_code (3 : Nat) (Option.none : Option Jvm.ClassFile.FieldType)) ∈ fm_T0 := fm_T0_4 42 rfl rfl
theorem q_763 : (Jvm.Cond.methodLink "AgentNet$Memory" (44 : Nat) ({ cls := "java/lang/System", name := "arraycopy", desc := "(Ljava/lang/Object;ILjava/lang/Object;II)V" } : Jvm.MethodName)) ∈ fm_T0 := fm_T0_4 43 rfl rfl
theorem q_764 : (Jvm.Cond.methodLink "AgentNet$Memory" (50 : Nat) ({ cls := "AgentNet$Sayings", name := "copyFrom", desc := "(LAgentNet$Sayings;)V" } : Jvm.MethodName)) ∈ fm_T0 := fm_T0_4 44 rfl rfl
theorem q_765 : (Jvm.Cond.instanceMethod ({ cls := "AgentNet$Sayings", name := "copyFrom", desc := "(LAgentNet$Sayings;)V" } : Jvm.MethodName)) ∈ fm_T0 := fm_T0_4 45 rfl rfl
theorem q_766 : (Jvm.Cond.selects "AgentNet$Sayings" ({ cls := "AgentNet$Sayings", name := "copyFrom", desc := "(LAgentNet$Sayings;)V" } : Jvm.MethodName) ({ cls := "AgentNet$Sayings", name := "copyFrom", desc := "(LAgentNet$Sayings;)V" } : Jvm.MethodName)) ∈ fm_T0 := fm_T0_4 46 rfl rfl
theorem q_767 : (Jvm.Cond.code ({ cls := "AgentNet$Sayings", name := "copyFrom", desc := "(LAgentNet$Sayings;)V" } : Jvm.MethodName) prog_7_method_5_code (2 : Nat) (Option.none : Option Jvm.ClassFile.FieldType)) ∈ fm_T0 := fm_T0_4 47 rfl rfl
theorem q_768 : (Jvm.Cond.methodLink "AgentNet$Sayings" (30 : Nat) ({ cls := "java/lang/System", name := "arraycopy", desc := "(Ljava/lang/Object;ILjava/lang/Object;II)V" } : Jvm.MethodName)) ∈ fm_T0 := fm_T0_4 48 rfl rfl
theorem q_769 : (Jvm.Cond.methodLink "AgentNet$Memory" (54 : Nat) ({ cls := "AgentNet$Traveller", name := "copyFrom", desc := "(LAgentNet$Traveller;)V" } : Jvm.MethodName)) ∈ fm_T0 := fm_T0_4 49 rfl rfl
theorem q_770 : (Jvm.Cond.methodLink "AgentNet$Site" (39 : Nat) ({ cls := "AgentNet$Memory", name := "filled", desc := "()I" } : Jvm.MethodName)) ∈ fm_T0 := fm_T0_4 50 rfl rfl
theorem q_771 : (Jvm.Cond.instanceMethod ({ cls := "AgentNet$Memory", name := "filled", desc := "()I" } : Jvm.MethodName)) ∈ fm_T0 := fm_T0_4 51 rfl rfl
theorem q_772 : (Jvm.Cond.selects "AgentNet$Memory" ({ cls := "AgentNet$Memory", name := "filled", desc := "()I" } : Jvm.MethodName) ({ cls := "AgentNet$Memory", name := "filled", desc := "()I" } : Jvm.MethodName)) ∈ fm_T0 := fm_T0_4 52 rfl rfl
theorem q_773 : (Jvm.Cond.code ({ cls := "AgentNet$Memory", name := "filled", desc := "()I" } : Jvm.MethodName) prog_3_method_6_code (3 : Nat) (Option.some Jvm.ClassFile.FieldType.int)) ∈ fm_T0 := fm_T0_4 53 rfl rfl
theorem q_774 : (Jvm.Cond.methodLink "AgentNetLaw" (80 : Nat) ({ cls := "AgentNetLaw", name := "write", desc := "(LAgentNet;II[J)I" } : Jvm.MethodName)) ∈ fm_T0 := fm_T0_4 54 rfl rfl
theorem q_775 : (Jvm.Cond.static ({ cls := "AgentNetLaw", name := "write", desc := "(LAgentNet;II[J)I" } : Jvm.MethodName)) ∈ fm_T0 := fm_T0_4 55 rfl rfl
theorem q_777 : (Jvm.Cond.methodLink "AgentNetLaw" (28 : Nat) ({ cls := "AgentNet", name := "write", desc := "(II)I" } : Jvm.MethodName)) ∈ fm_T0 := fm_T0_4 57 rfl rfl
theorem q_778 : (Jvm.Cond.instanceMethod ({ cls := "AgentNet", name := "write", desc := "(II)I" } : Jvm.MethodName)) ∈ fm_T0 := fm_T0_4 58 rfl rfl
theorem q_779 : (Jvm.Cond.selects "AgentNet" ({ cls := "AgentNet", name := "write", desc := "(II)I" } : Jvm.MethodName) ({ cls := "AgentNet", name := "write", desc := "(II)I" } : Jvm.MethodName)) ∈ fm_T0 := fm_T0_4 59 rfl rfl
theorem q_780 : (Jvm.Cond.code ({ cls := "AgentNet", name := "write", desc := "(II)I" } : Jvm.MethodName) prog_1_method_8_code (4 : Nat) (Option.some Jvm.ClassFile.FieldType.int)) ∈ fm_T0 := fm_T0_4 60 rfl rfl
theorem q_781 : (Jvm.Cond.methodLink "AgentNet" (128 : Nat) ({ cls := "java/lang/Math", name := "min", desc := "(II)I" } : Jvm.MethodName)) ∈ fm_T0 := fm_T0_4 61 rfl rfl
theorem q_782 : (Jvm.Cond.static ({ cls := "java/lang/Math", name := "min", desc := "(II)I" } : Jvm.MethodName)) ∈ fm_T0 := fm_T0_4 62 rfl rfl
theorem q_783 : (Jvm.Cond.code ({ cls := "java/lang/Math", name := "min", desc := "(II)I" } : Jvm.MethodName) prog_19_method_69_code (2 : Nat) (Option.some Jvm.ClassFile.FieldType.int)) ∈ fm_T0 := fm_T0_4 63 rfl rfl
theorem q_784 : (Jvm.Cond.methodLink "AgentNet" (134 : Nat) ({ cls := "AgentNet$Site", name := "seal", desc := "(LAgentNet$Sayings;LAgentNet$Wire;)V" } : Jvm.MethodName)) ∈ fm_T0 := fm_T0_4 64 rfl rfl
theorem q_785 : (Jvm.Cond.instanceMethod ({ cls := "AgentNet$Site", name := "seal", desc := "(LAgentNet$Sayings;LAgentNet$Wire;)V" } : Jvm.MethodName)) ∈ fm_T0 := fm_T0_4 65 rfl rfl
theorem q_786 : (Jvm.Cond.selects "AgentNet$Site" ({ cls := "AgentNet$Site", name := "seal", desc := "(LAgentNet$Sayings;LAgentNet$Wire;)V" } : Jvm.MethodName) ({ cls := "AgentNet$Site", name := "seal", desc := "(LAgentNet$Sayings;LAgentNet$Wire;)V" } : Jvm.MethodName)) ∈ fm_T0 := fm_T0_4 66 rfl rfl
theorem q_787 : (Jvm.Cond.code ({ cls := "AgentNet$Site", name := "seal", desc := "(LAgentNet$Sayings;LAgentNet$Wire;)V" } : Jvm.MethodName) prog_9_method_3_code (5 : Nat) (Option.none : Option Jvm.ClassFile.FieldType)) ∈ fm_T0 := fm_T0_4 67 rfl rfl
theorem q_788 : (Jvm.Cond.methodLink "AgentNet$Site" (47 : Nat) ({ cls := "AgentNet$Sayings", name := "addMissing", desc := "(LAgentNet$Sayings;)V" } : Jvm.MethodName)) ∈ fm_T0 := fm_T0_4 68 rfl rfl
theorem q_789 : (Jvm.Cond.instanceMethod ({ cls := "AgentNet$Sayings", name := "addMissing", desc := "(LAgentNet$Sayings;)V" } : Jvm.MethodName)) ∈ fm_T0 := fm_T0_4 69 rfl rfl
theorem q_790 : (Jvm.Cond.selects "AgentNet$Sayings" ({ cls := "AgentNet$Sayings", name := "addMissing", desc := "(LAgentNet$Sayings;)V" } : Jvm.MethodName) ({ cls := "AgentNet$Sayings", name := "addMissing", desc := "(LAgentNet$Sayings;)V" } : Jvm.MethodName)) ∈ fm_T0 := fm_T0_4 70 rfl rfl
theorem q_791 : (Jvm.Cond.code ({ cls := "AgentNet$Sayings", name := "addMissing", desc := "(LAgentNet$Sayings;)V" } : Jvm.MethodName) prog_7_method_6_code (5 : Nat) (Option.none : Option Jvm.ClassFile.FieldType)) ∈ fm_T0 := fm_T0_4 71 rfl rfl
theorem q_792 : (Jvm.Cond.methodLink "AgentNet$Sayings" (36 : Nat) ({ cls := "AgentNet$Sayings", name := "put", desc := "(III)V" } : Jvm.MethodName)) ∈ fm_T0 := fm_T0_4 72 rfl rfl
theorem q_793 : (Jvm.Cond.methodLink "AgentNet$Site" (60 : Nat) ({ cls := "AgentNet$Wire", name := "sendReceipt", desc := "(IIII)V" } : Jvm.MethodName)) ∈ fm_T0 := fm_T0_4 73 rfl rfl
theorem q_794 : (Jvm.Cond.instanceMethod ({ cls := "AgentNet$Wire", name := "sendReceipt", desc := "(IIII)V" } : Jvm.MethodName)) ∈ fm_T0 := fm_T0_4 74 rfl rfl
theorem q_795 : (Jvm.Cond.selects "AgentNet$Wire" ({ cls := "AgentNet$Wire", name := "sendReceipt", desc := "(IIII)V" } : Jvm.MethodName) ({ cls := "AgentNet$Wire", name := "sendReceipt", desc := "(IIII)V" } : Jvm.MethodName)) ∈ fm_T0 := fm_T0_4 75 rfl rfl
theorem q_796 : (Jvm.Cond.code ({ cls := "AgentNet$Wire", name := "sendReceipt", desc := "(IIII)V" } : Jvm.MethodName) prog_11_method_5_code (5 : Nat) (Option.none : Option Jvm.ClassFile.FieldType)) ∈ fm_T0 := fm_T0_4 76 rfl rfl
theorem q_797 : (Jvm.Cond.methodLink "AgentNetLaw" (83 : Nat) ({ cls := "AgentNetLaw", name := "crash", desc := "(LAgentNet;I[J)I" } : Jvm.MethodName)) ∈ fm_T0 := fm_T0_4 77 rfl rfl
theorem q_798 : (Jvm.Cond.static ({ cls := "AgentNetLaw", name := "crash", desc := "(LAgentNet;I[J)I" } : Jvm.MethodName)) ∈ fm_T0 := fm_T0_4 78 rfl rfl
theorem q_800 : (Jvm.Cond.methodLink "AgentNetLaw" (31 : Nat) ({ cls := "AgentNet", name := "crash", desc := "(I)Z" } : Jvm.MethodName)) ∈ fm_T0 := fm_T0_4 80 rfl rfl
theorem q_801 : (Jvm.Cond.instanceMethod ({ cls := "AgentNet", name := "crash", desc := "(I)Z" } : Jvm.MethodName)) ∈ fm_T0 := fm_T0_4 81 rfl rfl
theorem q_802 : (Jvm.Cond.selects "AgentNet" ({ cls := "AgentNet", name := "crash", desc := "(I)Z" } : Jvm.MethodName) ({ cls := "AgentNet", name := "crash", desc := "(I)Z" } : Jvm.MethodName)) ∈ fm_T0 := fm_T0_4 82 rfl rfl
theorem q_803 : (Jvm.Cond.code ({ cls := "AgentNet", name := "crash", desc := "(I)Z" } : Jvm.MethodName) prog_1_method_9_code (2 : Nat) (Option.some Jvm.ClassFile.FieldType.boolean)) ∈ fm_T0 := fm_T0_4 83 rfl rfl
theorem q_804 : (Jvm.Cond.methodLink "AgentNet" (138 : Nat) ({ cls := "AgentNet$Site", name := "goDown", desc := "()V" } : Jvm.MethodName)) ∈ fm_T0 := fm_T0_4 84 rfl rfl
theorem q_805 : (Jvm.Cond.instanceMethod ({ cls := "AgentNet$Site", name := "goDown", desc := "()V" } : Jvm.MethodName)) ∈ fm_T0 := fm_T0_4 85 rfl rfl
theorem q_806 : (Jvm.Cond.selects "AgentNet$Site" ({ cls := "AgentNet$Site", name := "goDown", desc := "()V" } : Jvm.MethodName) ({ cls := "AgentNet$Site", name := "goDown", desc := "()V" } : Jvm.MethodName)) ∈ fm_T0 := fm_T0_4 86 rfl rfl
theorem q_807 : (Jvm.Cond.code ({ cls := "AgentNet$Site", name := "goDown", desc := "()V" } : Jvm.MethodName) prog_9_method_4_code (1 : Nat) (Option.none : Option Jvm.ClassFile.FieldType)) ∈ fm_T0 := fm_T0_4 87 rfl rfl
theorem q_808 : (Jvm.Cond.methodLink "AgentNetLaw" (86 : Nat) ({ cls := "AgentNetLaw", name := "start", desc := "(LAgentNet;I[J)I" } : Jvm.MethodName)) ∈ fm_T0 := fm_T0_4 88 rfl rfl
theorem q_809 : (Jvm.Cond.static ({ cls := "AgentNetLaw", name := "start", desc := "(LAgentNet;I[J)I" } : Jvm.MethodName)) ∈ fm_T0 := fm_T0_4 89 rfl rfl
theorem q_811 : (Jvm.Cond.methodLink "AgentNetLaw" (35 : Nat) ({ cls := "AgentNet", name := "start", desc := "(I)Z" } : Jvm.MethodName)) ∈ fm_T0 := fm_T0_4 91 rfl rfl
theorem q_812 : (Jvm.Cond.instanceMethod ({ cls := "AgentNet", name := "start", desc := "(I)Z" } : Jvm.MethodName)) ∈ fm_T0 := fm_T0_4 92 rfl rfl
theorem q_813 : (Jvm.Cond.selects "AgentNet" ({ cls := "AgentNet", name := "start", desc := "(I)Z" } : Jvm.MethodName) ({ cls := "AgentNet", name := "start", desc := "(I)Z" } : Jvm.MethodName)) ∈ fm_T0 := fm_T0_4 93 rfl rfl
theorem q_814 : (Jvm.Cond.code ({ cls := "AgentNet", name := "start", desc := "(I)Z" } : Jvm.MethodName) prog_1_method_10_code (2 : Nat) (Option.some Jvm.ClassFile.FieldType.boolean)) ∈ fm_T0 := fm_T0_4 94 rfl rfl
theorem q_815 : (Jvm.Cond.methodLink "AgentNet" (141 : Nat) ({ cls := "AgentNet$Site", name := "comeUp", desc := "()V" } : Jvm.MethodName)) ∈ fm_T0 := fm_T0_4 95 rfl rfl
theorem q_816 : (Jvm.Cond.instanceMethod ({ cls := "AgentNet$Site", name := "comeUp", desc := "()V" } : Jvm.MethodName)) ∈ fm_T0 := fm_T0_4 96 rfl rfl
theorem q_817 : (Jvm.Cond.selects "AgentNet$Site" ({ cls := "AgentNet$Site", name := "comeUp", desc := "()V" } : Jvm.MethodName) ({ cls := "AgentNet$Site", name := "comeUp", desc := "()V" } : Jvm.MethodName)) ∈ fm_T0 := fm_T0_4 97 rfl rfl
theorem q_818 : (Jvm.Cond.code ({ cls := "AgentNet$Site", name := "comeUp", desc := "()V" } : Jvm.MethodName) prog_9_method_5_code (1 : Nat) (Option.none : Option Jvm.ClassFile.FieldType)) ∈ fm_T0 := fm_T0_4 98 rfl rfl
theorem q_819 : (Jvm.Cond.methodLink "AgentNetLaw" (89 : Nat) ({ cls := "AgentNetLaw", name := "net", desc := "(LAgentNet;II[J)I" } : Jvm.MethodName)) ∈ fm_T0 := fm_T0_4 99 rfl rfl
theorem q_820 : (Jvm.Cond.static ({ cls := "AgentNetLaw", name := "net", desc := "(LAgentNet;II[J)I" } : Jvm.MethodName)) ∈ fm_T0 := fm_T0_4 100 rfl rfl
theorem q_822 : (Jvm.Cond.classLink "AgentNetLaw" (41 : Nat) "java/lang/IndexOutOfBoundsException") ∈ fm_T0 := fm_T0_4 102 rfl rfl
theorem q_823 : (Jvm.Cond.methodLink "AgentNetLaw" (38 : Nat) ({ cls := "AgentNet", name := "net", desc := "(II)I" } : Jvm.MethodName)) ∈ fm_T0 := fm_T0_4 103 rfl rfl
theorem q_824 : (Jvm.Cond.instanceMethod ({ cls := "AgentNet", name := "net", desc := "(II)I" } : Jvm.MethodName)) ∈ fm_T0 := fm_T0_4 104 rfl rfl
theorem q_825 : (Jvm.Cond.selects "AgentNet" ({ cls := "AgentNet", name := "net", desc := "(II)I" } : Jvm.MethodName) ({ cls := "AgentNet", name := "net", desc := "(II)I" } : Jvm.MethodName)) ∈ fm_T0 := fm_T0_4 105 rfl rfl
theorem q_826 : (Jvm.Cond.code ({ cls := "AgentNet", name := "net", desc := "(II)I" } : Jvm.MethodName) prog_1_method_11_code (4 : Nat) (Option.some Jvm.ClassFile.FieldType.int)) ∈ fm_T0 := fm_T0_4 106 rfl rfl
theorem q_827 : (Jvm.Cond.classLink "AgentNet" (147 : Nat) "java/lang/IndexOutOfBoundsException") ∈ fm_T0 := fm_T0_4 107 rfl rfl
theorem q_828 : (Jvm.Cond.instantiable "java/lang/IndexOutOfBoundsException" (6 : Nat)) ∈ fm_T0 := fm_T0_4 108 rfl rfl
theorem q_830 : (Jvm.Cond.selects "java/lang/IndexOutOfBoundsException" ({ cls := "java/lang/Throwable", name := "fillInStackTrace", desc := "(I)Ljava/lang/Throwable;" } : Jvm.MethodName) ({ cls := "java/lang/Throwable", name := "fillInStackTrace", desc := "(I)Ljava/lang/Throwable;" } : Jvm.MethodName)) ∈ fm_T0 := fm_T0_4 110 rfl rfl
theorem q_831 : (Jvm.Cond.lays "java/lang/IndexOutOfBoundsException" "java/lang/Throwable" "cause" "Ljava/lang/Throwable;") ∈ fm_T0 := fm_T0_4 111 rfl rfl
theorem q_832 : (Jvm.Cond.lays "java/lang/IndexOutOfBoundsException" "java/lang/Throwable" "stackTrace" "[Ljava/lang/StackTraceElement;") ∈ fm_T0 := fm_T0_4 112 rfl rfl
theorem q_833 : (Jvm.Cond.lays "java/lang/IndexOutOfBoundsException" "java/lang/Throwable" "suppressedExceptions" "Ljava/util/List;") ∈ fm_T0 := fm_T0_4 113 rfl rfl
theorem q_834 : (Jvm.Cond.lays "java/lang/IndexOutOfBoundsException" "java/lang/Throwable" "detailMessage" "Ljava/lang/String;") ∈ fm_T0 := fm_T0_4 114 rfl rfl
theorem q_835 : (Jvm.Cond.lays "java/lang/IndexOutOfBoundsException" "java/lang/Throwable" "backtrace" "Ljava/lang/Object;") ∈ fm_T0 := fm_T0_4 115 rfl rfl
theorem q_836 : (Jvm.Cond.methodLink "AgentNet" (149 : Nat) ({ cls := "java/lang/IndexOutOfBoundsException", name := "<init>", desc := "()V" } : Jvm.MethodName)) ∈ fm_T0 := fm_T0_4 116 rfl rfl
theorem q_837 : (Jvm.Cond.instanceMethod ({ cls := "java/lang/IndexOutOfBoundsException", name := "<init>", desc := "()V" } : Jvm.MethodName)) ∈ fm_T0 := fm_T0_4 117 rfl rfl
theorem q_838 : (Jvm.Cond.code ({ cls := "java/lang/IndexOutOfBoundsException", name := "<init>", desc := "()V" } : Jvm.MethodName) prog_17_method_1_code (1 : Nat) (Option.none : Option Jvm.ClassFile.FieldType)) ∈ fm_T0 := fm_T0_4 118 rfl rfl
theorem q_839 : (Jvm.Cond.methodLink "java/lang/IndexOutOfBoundsException" (1 : Nat) ({ cls := "java/lang/RuntimeException", name := "<init>", desc := "()V" } : Jvm.MethodName)) ∈ fm_T0 := fm_T0_4 119 rfl rfl
theorem q_840 : (Jvm.Cond.lays "java/lang/IndexOutOfBoundsException" "java/lang/Throwable" "depth" "I") ∈ fm_T0 := fm_T0_4 120 rfl rfl
theorem q_842 : (Jvm.Cond.methodLink "AgentNet" (150 : Nat) ({ cls := "AgentNet$Wire", name := "isFull", desc := "()Z" } : Jvm.MethodName)) ∈ fm_T0 := fm_T0_4 122 rfl rfl
theorem q_843 : (Jvm.Cond.methodLink "AgentNet" (154 : Nat) ({ cls := "AgentNet$Wire", name := "repeat", desc := "(I)V" } : Jvm.MethodName)) ∈ fm_T0 := fm_T0_4 123 rfl rfl
theorem q_844 : (Jvm.Cond.instanceMethod ({ cls := "AgentNet$Wire", name := "repeat", desc := "(I)V" } : Jvm.MethodName)) ∈ fm_T0 := fm_T0_4 124 rfl rfl
theorem q_845 : (Jvm.Cond.selects "AgentNet$Wire" ({ cls := "AgentNet$Wire", name := "repeat", desc := "(I)V" } : Jvm.MethodName) ({ cls := "AgentNet$Wire", name := "repeat", desc := "(I)V" } : Jvm.MethodName)) ∈ fm_T0 := fm_T0_4 125 rfl rfl
theorem q_846 : (Jvm.Cond.code ({ cls := "AgentNet$Wire", name := "repeat", desc := "(I)V" } : Jvm.MethodName) prog_11_method_6_code (2 : Nat) (Option.none : Option Jvm.ClassFile.FieldType)) ∈ fm_T0 := fm_T0_4 126 rfl rfl
theorem q_847 : (Jvm.Cond.methodLink "AgentNet$Wire" (46 : Nat) ({ cls := "AgentNet$Message", name := "copyFrom", desc := "(LAgentNet$Message;)V" } : Jvm.MethodName)) ∈ fm_T0 := fm_T0_4 127 rfl rfl
theorem q_848 : (Jvm.Cond.instanceMethod ({ cls := "AgentNet$Message", name := "copyFrom", desc := "(LAgentNet$Message;)V" } : Jvm.MethodName)) ∈ fm_T0 := fm_T0_4 128 rfl rfl
theorem q_849 : (Jvm.Cond.selects "AgentNet$Message" ({ cls := "AgentNet$Message", name := "copyFrom", desc := "(LAgentNet$Message;)V" } : Jvm.MethodName) ({ cls := "AgentNet$Message", name := "copyFrom", desc := "(LAgentNet$Message;)V" } : Jvm.MethodName)) ∈ fm_T0 := fm_T0_4 129 rfl rfl
theorem q_850 : (Jvm.Cond.code ({ cls := "AgentNet$Message", name := "copyFrom", desc := "(LAgentNet$Message;)V" } : Jvm.MethodName) prog_4_method_3_code (2 : Nat) (Option.none : Option Jvm.ClassFile.FieldType)) ∈ fm_T0 := fm_T0_4 130 rfl rfl
theorem q_851 : (Jvm.Cond.methodLink "AgentNet$Message" (38 : Nat) ({ cls := "AgentNet$Message", name := "address", desc := "(IIII)V" } : Jvm.MethodName)) ∈ fm_T0 := fm_T0_4 131 rfl rfl
theorem q_852 : (Jvm.Cond.methodLink "AgentNet$Message" (42 : Nat) ({ cls := "java/lang/System", name := "arraycopy", desc := "(Ljava/lang/Object;ILjava/lang/Object;II)V" } : Jvm.MethodName)) ∈ fm_T0 := fm_T0_4 132 rfl rfl
theorem q_853 : (Jvm.Cond.methodLink "AgentNet" (157 : Nat) ({ cls := "AgentNet$Wire", name := "remove", desc := "(I)LAgentNet$Message;" } : Jvm.MethodName)) ∈ fm_T0 := fm_T0_4 133 rfl rfl
theorem q_854 : (Jvm.Cond.instanceMethod ({ cls := "AgentNet$Wire", name := "remove", desc := "(I)LAgentNet$Message;" } : Jvm.MethodName)) ∈ fm_T0 := fm_T0_4 134 rfl rfl
theorem q_855 : (Jvm.Cond.selects "AgentNet$Wire" ({ cls := "AgentNet$Wire", name := "remove", desc := "(I)LAgentNet$Message;" } : Jvm.MethodName) ({ cls := "AgentNet$Wire", name := "remove", desc := "(I)LAgentNet$Message;" } : Jvm.MethodName)) ∈ fm_T0 := fm_T0_4 135 rfl rfl
theorem q_856 : (Jvm.Cond.code ({ cls := "AgentNet$Wire", name := "remove", desc := "(I)LAgentNet$Message;" } : Jvm.MethodName) prog_11_method_7_code (4 : Nat) (Option.some (Jvm.ClassFile.FieldType.object "AgentNet$Message"))) ∈ fm_T0 := fm_T0_4 136 rfl rfl
theorem q_857 : (Jvm.Cond.methodLink "AgentNet" (166 : Nat) ({ cls := "AgentNet$Site", name := "receive", desc := "(LAgentNet$Message;LAgentNet$Wire;)V" } : Jvm.MethodName)) ∈ fm_T0 := fm_T0_4 137 rfl rfl
theorem q_858 : (Jvm.Cond.instanceMethod ({ cls := "AgentNet$Site", name := "receive", desc := "(LAgentNet$Message;LAgentNet$Wire;)V" } : Jvm.MethodName)) ∈ fm_T0 := fm_T0_4 138 rfl rfl
theorem q_859 : (Jvm.Cond.selects "AgentNet$Site" ({ cls := "AgentNet$Site", name := "receive", desc := "(LAgentNet$Message;LAgentNet$Wire;)V" } : Jvm.MethodName) ({ cls := "AgentNet$Site", name := "receive", desc := "(LAgentNet$Message;LAgentNet$Wire;)V" } : Jvm.MethodName)) ∈ fm_T0 := fm_T0_4 139 rfl rfl
theorem q_860 : (Jvm.Cond.code ({ cls := "AgentNet$Site", name := "receive", desc := "(LAgentNet$Message;LAgentNet$Wire;)V" } : Jvm.MethodName) prog_9_method_7_code (4 : Nat) (Option.none : Option Jvm.ClassFile.FieldType)) ∈ fm_T0 := fm_T0_4 140 rfl rfl
theorem q_861 : (Jvm.Cond.methodLink "AgentNet$Site" (96 : Nat) ({ cls := "AgentNet$Message", name := "unpack", desc := "(LAgentNet$Traveller;)V" } : Jvm.MethodName)) ∈ fm_T0 := fm_T0_4 141 rfl rfl
theorem q_862 : (Jvm.Cond.instanceMethod ({ cls := "AgentNet$Message", name := "unpack", desc := "(LAgentNet$Traveller;)V" } : Jvm.MethodName)) ∈ fm_T0 := fm_T0_4 142 rfl rfl
theorem q_863 : (Jvm.Cond.selects "AgentNet$Message" ({ cls := "AgentNet$Message", name := "unpack", desc := "(LAgentNet$Traveller;)V" } : Jvm.MethodName) ({ cls := "AgentNet$Message", name := "unpack", desc := "(LAgentNet$Traveller;)V" } : Jvm.MethodName)) ∈ fm_T0 := fm_T0_4 143 rfl rfl
theorem q_864 : (Jvm.Cond.code ({ cls := "AgentNet$Message", name := "unpack", desc := "(LAgentNet$Traveller;)V" } : Jvm.MethodName) prog_4_method_5_code (3 : Nat) (Option.none : Option Jvm.ClassFile.FieldType)) ∈ fm_T0 := fm_T0_4 144 rfl rfl
theorem q_865 : (Jvm.Cond.methodLink "AgentNet$Message" (94 : Nat) ({ cls := "AgentNet$Message", name := "take", desc := "()I" } : Jvm.MethodName)) ∈ fm_T0 := fm_T0_4 145 rfl rfl
theorem q_867 : (Jvm.Cond.instanceMethod ({ cls := "AgentNet$Message", name := "take", desc := "()I" } : Jvm.MethodName)) ∈ fm_T0 := fm_T0_4 147 rfl rfl
theorem q_868 : (Jvm.Cond.code ({ cls := "AgentNet$Message", name := "take", desc := "()I" } : Jvm.MethodName) prog_4_method_9_code (1 : Nat) (Option.some Jvm.ClassFile.FieldType.int)) ∈ fm_T0 := fm_T0_4 148 rfl rfl
theorem q_869 : (Jvm.Cond.methodLink "AgentNet$Message" (98 : Nat) ({ cls := "java/lang/Math", name := "min", desc := "(II)I" } : Jvm.MethodName)) ∈ fm_T0 := fm_T0_4 149 rfl rfl
theorem q_870 : (Jvm.Cond.methodLink "AgentNet$Message" (104 : Nat) ({ cls := "AgentNet$Message", name := "takeValue", desc := "()J" } : Jvm.MethodName)) ∈ fm_T0 := fm_T0_4 150 rfl rfl
theorem q_872 : (Jvm.Cond.instanceMethod ({ cls := "AgentNet$Message", name := "takeValue", desc := "()J" } : Jvm.MethodName)) ∈ fm_T0 := fm_T0_4 152 rfl rfl
theorem q_873 : (Jvm.Cond.code ({ cls := "AgentNet$Message", name := "takeValue", desc := "()J" } : Jvm.MethodName) prog_4_method_7_code (3 : Nat) (Option.some Jvm.ClassFile.FieldType.long)) ∈ fm_T0 := fm_T0_4 153 rfl rfl
theorem q_874 : (Jvm.Cond.methodLink "AgentNet$Site" (100 : Nat) ({ cls := "AgentNet$Memory", name := "settle", desc := "(II)V" } : Jvm.MethodName)) ∈ fm_T0 := fm_T0_4 154 rfl rfl
theorem q_875 : (Jvm.Cond.classLink "AgentNetLaw" (44 : Nat) "AgentNetModel") ∈ fm_T0 := fm_T0_4 155 rfl rfl
theorem q_876 : (Jvm.Cond.instantiable "AgentNetModel" (51 : Nat)) ∈ fm_T0 := fm_T0_4 156 rfl rfl
theorem q_877 : (Jvm.Cond.methodLink "AgentNetLaw" (46 : Nat) ({ cls := "AgentNetModel", name := "<init>", desc := "()V" } : Jvm.MethodName)) ∈ fm_T0 := fm_T0_4 157 rfl rfl
theorem q_878 : (Jvm.Cond.instanceMethod ({ cls := "AgentNetModel", name := "<init>", desc := "()V" } : Jvm.MethodName)) ∈ fm_T0 := fm_T0_4 158 rfl rfl
theorem q_879 : (Jvm.Cond.code ({ cls := "AgentNetModel", name := "<init>", desc := "()V" } : Jvm.MethodName) prog_13_method_1_code (2 : Nat) (Option.none : Option Jvm.ClassFile.FieldType)) ∈ fm_T0 := fm_T0_4 159 rfl rfl
theorem q_880 : (Jvm.Cond.methodLink "AgentNetModel" (1 : Nat) ({ cls := "java/lang/Object", name := "<init>", desc := "()V" } : Jvm.MethodName)) ∈ fm_T0 := fm_T0_4 160 rfl rfl
theorem q_881 : (Jvm.Cond.methodLink "AgentNetModel" (138 : Nat) ({ cls := "AgentNetModel", name := "forget", desc := "(I)V" } : Jvm.MethodName)) ∈ fm_T0 := fm_T0_4 161 rfl rfl
theorem q_883 : (Jvm.Cond.instanceMethod ({ cls := "AgentNetModel", name := "forget", desc := "(I)V" } : Jvm.MethodName)) ∈ fm_T0 := fm_T0_4 163 rfl rfl
theorem q_884 : (Jvm.Cond.code ({ cls := "AgentNetModel", name := "forget", desc := "(I)V" } : Jvm.MethodName) prog_13_method_5_code (3 : Nat) (Option.none : Option Jvm.ClassFile.FieldType)) ∈ fm_T0 := fm_T0_4 164 rfl rfl
theorem q_885 : (Jvm.Cond.fieldLink "AgentNetModel" (142 : Nat) "AgentNetModel" "thrown" "I") ∈ fm_T0 := fm_T0_4 165 rfl rfl
theorem q_886 : (Jvm.Cond.fieldLink "AgentNetModel" (7 : Nat) "AgentNetModel" "bytes" "[I") ∈ fm_T0 := fm_T0_4 166 rfl rfl
theorem q_887 : (Jvm.Cond.fieldLink "AgentNetModel" (13 : Nat) "AgentNetModel" "lengths" "[I") ∈ fm_T0 := fm_T0_4 167 rfl rfl
theorem q_888 : (Jvm.Cond.fieldLink "AgentNetModel" (16 : Nat) "AgentNetModel" "tables" "[I") ∈ fm_T0 := fm_T0_4 168 rfl rfl
theorem q_889 : (Jvm.Cond.fieldLink "AgentNetModel" (175 : Nat) "AgentNetModel" "launched" "I") ∈ fm_T0 := fm_T0_4 169 rfl rfl
theorem q_890 : (Jvm.Cond.fieldLink "AgentNetModel" (19 : Nat) "AgentNetModel" "home" "[I") ∈ fm_T0 := fm_T0_4 170 rfl rfl
theorem q_891 : (Jvm.Cond.fieldLink "AgentNetModel" (22 : Nat) "AgentNetModel" "rule" "[I") ∈ fm_T0 := fm_T0_4 171 rfl rfl
theorem q_892 : (Jvm.Cond.fieldLink "AgentNetModel" (25 : Nat) "AgentNetModel" "purse" "[I") ∈ fm_T0 := fm_T0_4 172 rfl rfl
theorem q_893 : (Jvm.Cond.fieldLink "AgentNetModel" (28 : Nat) "AgentNetModel" "count" "[I") ∈ fm_T0 := fm_T0_4 173 rfl rfl
theorem q_894 : (Jvm.Cond.fieldLink "AgentNetModel" (31 : Nat) "AgentNetModel" "freed" "[I") ∈ fm_T0 := fm_T0_4 174 rfl rfl
theorem q_895 : (Jvm.Cond.fieldLink "AgentNetModel" (34 : Nat) "AgentNetModel" "up" "[Z") ∈ fm_T0 := fm_T0_4 175 rfl rfl
theorem q_896 : (Jvm.Cond.fieldLink "AgentNetModel" (38 : Nat) "AgentNetModel" "left" "[I") ∈ fm_T0 := fm_T0_4 176 rfl rfl
theorem q_897 : (Jvm.Cond.fieldLink "AgentNetModel" (41 : Nat) "AgentNetModel" "slot" "[I") ∈ fm_T0 := fm_T0_4 177 rfl rfl
theorem q_898 : (Jvm.Cond.fieldLink "AgentNetModel" (44 : Nat) "AgentNetModel" "goal" "[I") ∈ fm_T0 := fm_T0_4 178 rfl rfl
theorem q_899 : (Jvm.Cond.fieldLink "AgentNetModel" (47 : Nat) "AgentNetModel" "known" "[I") ∈ fm_T0 := fm_T0_4 179 rfl rfl
theorem q_900 : (Jvm.Cond.fieldLink "AgentNetModel" (50 : Nat) "AgentNetModel" "owed" "[I") ∈ fm_T0 := fm_T0_4 180 rfl rfl
theorem q_901 : (Jvm.Cond.fieldLink "AgentNetModel" (53 : Nat) "AgentNetModel" "note" "[I") ∈ fm_T0 := fm_T0_4 181 rfl rfl
theorem q_902 : (Jvm.Cond.fieldLink "AgentNetModel" (56 : Nat) "AgentNetModel" "told" "[I") ∈ fm_T0 := fm_T0_4 182 rfl rfl
theorem q_903 : (Jvm.Cond.fieldLink "AgentNetModel" (59 : Nat) "AgentNetModel" "words" "[I") ∈ fm_T0 := fm_T0_4 183 rfl rfl
theorem q_904 : (Jvm.Cond.fieldLink "AgentNetModel" (62 : Nat) "AgentNetModel" "turn" "[Z") ∈ fm_T0 := fm_T0_4 184 rfl rfl
theorem q_905 : (Jvm.Cond.fieldLink "AgentNetModel" (65 : Nat) "AgentNetModel" "program" "[I") ∈ fm_T0 := fm_T0_4 185 rfl rfl
theorem q_906 : (Jvm.Cond.fieldLink "AgentNetModel" (68 : Nat) "AgentNetModel" "place" "[I") ∈ fm_T0 := fm_T0_4 186 rfl rfl
theorem q_907 : (Jvm.Cond.fieldLink "AgentNetModel" (71 : Nat) "AgentNetModel" "fuel" "[I") ∈ fm_T0 := fm_T0_4 187 rfl rfl
theorem q_908 : (Jvm.Cond.fieldLink "AgentNetModel" (74 : Nat) "AgentNetModel" "hops" "[I") ∈ fm_T0 := fm_T0_4 188 rfl rfl
theorem q_909 : (Jvm.Cond.fieldLink "AgentNetModel" (77 : Nat) "AgentNetModel" "said" "[I") ∈ fm_T0 := fm_T0_4 189 rfl rfl
theorem q_910 : (Jvm.Cond.fieldLink "AgentNetModel" (80 : Nat) "AgentNetModel" "wait" "[I") ∈ fm_T0 := fm_T0_4 190 rfl rfl
theorem q_911 : (Jvm.Cond.fieldLink "AgentNetModel" (83 : Nat) "AgentNetModel" "cloned" "[Z") ∈ fm_T0 := fm_T0_4 191 rfl rfl
theorem q_912 : (Jvm.Cond.fieldLink "AgentNetModel" (86 : Nat) "AgentNetModel" "size" "[I") ∈ fm_T0 := fm_T0_4 192 rfl rfl
theorem q_913 : (Jvm.Cond.fieldLink "AgentNetModel" (89 : Nat) "AgentNetModel" "stack" "[J") ∈ fm_T0 := fm_T0_4 193 rfl rfl
theorem q_914 : (Jvm.Cond.fieldLink "AgentNetModel" (93 : Nat) "AgentNetModel" "pairs" "[I") ∈ fm_T0 := fm_T0_4 194 rfl rfl
theorem q_915 : (Jvm.Cond.fieldLink "AgentNetModel" (96 : Nat) "AgentNetModel" "first" "[J") ∈ fm_T0 := fm_T0_4 195 rfl rfl
theorem q_916 : (Jvm.Cond.fieldLink "AgentNetModel" (99 : Nat) "AgentNetModel" "second" "[J") ∈ fm_T0 := fm_T0_4 196 rfl rfl
theorem q_917 : (Jvm.Cond.fieldLink "AgentNetModel" (156 : Nat) "AgentNetModel" "reached" "I") ∈ fm_T0 := fm_T0_4 197 rfl rfl
theorem q_918 : (Jvm.Cond.fieldLink "AgentNetModel" (102 : Nat) "AgentNetModel" "order" "[I") ∈ fm_T0 := fm_T0_4 198 rfl rfl
theorem q_919 : (Jvm.Cond.fieldLink "AgentNetModel" (105 : Nat) "AgentNetModel" "rank" "[I") ∈ fm_T0 := fm_T0_4 199 rfl rfl
theorem q_920 : (Jvm.Cond.fieldLink "AgentNetModel" (108 : Nat) "AgentNetModel" "heads" "[J") ∈ fm_T0 := fm_T0_4 200 rfl rfl
theorem q_921 : (Jvm.Cond.fieldLink "AgentNetModel" (111 : Nat) "AgentNetModel" "tails" "[J") ∈ fm_T0 := fm_T0_4 201 rfl rfl
theorem q_922 : (Jvm.Cond.fieldLink "AgentNetModel" (269 : Nat) "AgentNetModel" "under" "I") ∈ fm_T0 := fm_T0_4 202 rfl rfl
theorem q_923 : (Jvm.Cond.fieldLink "AgentNetModel" (114 : Nat) "AgentNetModel" "receipt" "[Z") ∈ fm_T0 := fm_T0_4 203 rfl rfl
theorem q_924 : (Jvm.Cond.fieldLink "AgentNetModel" (117 : Nat) "AgentNetModel" "who" "[I") ∈ fm_T0 := fm_T0_4 204 rfl rfl
theorem q_925 : (Jvm.Cond.fieldLink "AgentNetModel" (120 : Nat) "AgentNetModel" "far" "[I") ∈ fm_T0 := fm_T0_4 205 rfl rfl
theorem q_926 : (Jvm.Cond.fieldLink "AgentNetModel" (123 : Nat) "AgentNetModel" "from" "[I") ∈ fm_T0 := fm_T0_4 206 rfl rfl
theorem q_927 : (Jvm.Cond.fieldLink "AgentNetModel" (126 : Nat) "AgentNetModel" "to" "[I") ∈ fm_T0 := fm_T0_4 207 rfl rfl
theorem q_928 : (Jvm.Cond.fieldLink "AgentNetModel" (129 : Nat) "AgentNetModel" "long1" "[I") ∈ fm_T0 := fm_T0_4 208 rfl rfl
theorem q_929 : (Jvm.Cond.fieldLink "AgentNetModel" (132 : Nat) "AgentNetModel" "image" "[I") ∈ fm_T0 := fm_T0_4 209 rfl rfl
theorem q_930 : (Jvm.Cond.fieldLink "AgentNetModel" (272 : Nat) "AgentNetModel" "at" "I") ∈ fm_T0 := fm_T0_4 210 rfl rfl
theorem q_931 : (Jvm.Cond.fieldLink "AgentNetModel" (208 : Nat) "AgentNetModel" "freeHost" "I") ∈ fm_T0 := fm_T0_4 211 rfl rfl
theorem q_932 : (Jvm.Cond.fieldLink "AgentNetModel" (216 : Nat) "AgentNetModel" "born" "Z") ∈ fm_T0 := fm_T0_4 212 rfl rfl
theorem q_933 : (Jvm.Cond.fieldLink "AgentNetModel" (205 : Nat) "AgentNetModel" "freeCount" "I") ∈ fm_T0 := fm_T0_4 213 rfl rfl
theorem q_934 : (Jvm.Cond.fieldLink "AgentNetModel" (135 : Nat) "AgentNetModel" "freeWords" "[I") ∈ fm_T0 := fm_T0_4 214 rfl rfl
theorem q_935 : (Jvm.Cond.fieldLink "AgentNetModel" (227 : Nat) "AgentNetModel" "ended" "Z") ∈ fm_T0 := fm_T0_4 215 rfl rfl
theorem q_936 : (Jvm.Cond.lays "AgentNetModel" "AgentNetModel" "thrown" "I") ∈ fm_T0 := fm_T0_4 216 rfl rfl
theorem q_938 : (Jvm.Cond.laysFinal "AgentNetModel" "AgentNetModel" "bytes" "[I") ∈ fm_T0 := fm_T0_4 218 rfl rfl
theorem q_940 : (Jvm.Cond.laysFinal "AgentNetModel" "AgentNetModel" "lengths" "[I") ∈ fm_T0 := fm_T0_4 220 rfl rfl
theorem q_942 : (Jvm.Cond.laysFinal "AgentNetModel" "AgentNetModel" "tables" "[I") ∈ fm_T0 := fm_T0_4 222 rfl rfl
theorem q_944 : (Jvm.Cond.lays "AgentNetModel" "AgentNetModel" "launched" "I") ∈ fm_T0 := fm_T0_4 224 rfl rfl
theorem q_946 : (Jvm.Cond.laysFinal "AgentNetModel" "AgentNetModel" "home" "[I") ∈ fm_T0 := fm_T0_4 226 rfl rfl
theorem q_948 : (Jvm.Cond.laysFinal "AgentNetModel" "AgentNetModel" "rule" "[I") ∈ fm_T0 := fm_T0_4 228 rfl rfl
theorem q_950 : (Jvm.Cond.laysFinal "AgentNetModel" "AgentNetModel" "purse" "[I") ∈ fm_T0 := fm_T0_4 230 rfl rfl
theorem q_952 : (Jvm.Cond.laysFinal "AgentNetModel" "AgentNetModel" "count" "[I") ∈ fm_T0 := fm_T0_4 232 rfl rfl
theorem q_954 : (Jvm.Cond.laysFinal "AgentNetModel" "AgentNetModel" "freed" "[I") ∈ fm_T0 := fm_T0_4 234 rfl rfl
theorem q_956 : (Jvm.Cond.laysFinal "AgentNetModel" "AgentNetModel" "up" "[Z") ∈ fm_T0 := fm_T0_4 236 rfl rfl
theorem q_958 : (Jvm.Cond.laysFinal "AgentNetModel" "AgentNetModel" "left" "[I") ∈ fm_T0 := fm_T0_4 238 rfl rfl
theorem q_960 : (Jvm.Cond.laysFinal "AgentNetModel" "AgentNetModel" "slot" "[I") ∈ fm_T0 := fm_T0_5 0 rfl rfl
theorem q_962 : (Jvm.Cond.laysFinal "AgentNetModel" "AgentNetModel" "goal" "[I") ∈ fm_T0 := fm_T0_5 2 rfl rfl
theorem q_964 : (Jvm.Cond.laysFinal "AgentNetModel" "AgentNetModel" "known" "[I") ∈ fm_T0 := fm_T0_5 4 rfl rfl
theorem q_966 : (Jvm.Cond.laysFinal "AgentNetModel" "AgentNetModel" "owed" "[I") ∈ fm_T0 := fm_T0_5 6 rfl rfl
theorem q_968 : (Jvm.Cond.laysFinal "AgentNetModel" "AgentNetModel" "note" "[I") ∈ fm_T0 := fm_T0_5 8 rfl rfl
theorem q_970 : (Jvm.Cond.laysFinal "AgentNetModel" "AgentNetModel" "told" "[I") ∈ fm_T0 := fm_T0_5 10 rfl rfl
theorem q_972 : (Jvm.Cond.laysFinal "AgentNetModel" "AgentNetModel" "words" "[I") ∈ fm_T0 := fm_T0_5 12 rfl rfl
theorem q_974 : (Jvm.Cond.laysFinal "AgentNetModel" "AgentNetModel" "turn" "[Z") ∈ fm_T0 := fm_T0_5 14 rfl rfl
theorem q_976 : (Jvm.Cond.laysFinal "AgentNetModel" "AgentNetModel" "program" "[I") ∈ fm_T0 := fm_T0_5 16 rfl rfl
theorem q_978 : (Jvm.Cond.laysFinal "AgentNetModel" "AgentNetModel" "place" "[I") ∈ fm_T0 := fm_T0_5 18 rfl rfl
theorem q_980 : (Jvm.Cond.laysFinal "AgentNetModel" "AgentNetModel" "fuel" "[I") ∈ fm_T0 := fm_T0_5 20 rfl rfl
theorem q_982 : (Jvm.Cond.laysFinal "AgentNetModel" "AgentNetModel" "hops" "[I") ∈ fm_T0 := fm_T0_5 22 rfl rfl
theorem q_984 : (Jvm.Cond.laysFinal "AgentNetModel" "AgentNetModel" "said" "[I") ∈ fm_T0 := fm_T0_5 24 rfl rfl
theorem q_986 : (Jvm.Cond.laysFinal "AgentNetModel" "AgentNetModel" "wait" "[I") ∈ fm_T0 := fm_T0_5 26 rfl rfl
theorem q_988 : (Jvm.Cond.laysFinal "AgentNetModel" "AgentNetModel" "cloned" "[Z") ∈ fm_T0 := fm_T0_5 28 rfl rfl
theorem q_990 : (Jvm.Cond.laysFinal "AgentNetModel" "AgentNetModel" "size" "[I") ∈ fm_T0 := fm_T0_5 30 rfl rfl
theorem q_992 : (Jvm.Cond.laysFinal "AgentNetModel" "AgentNetModel" "stack" "[J") ∈ fm_T0 := fm_T0_5 32 rfl rfl
theorem q_994 : (Jvm.Cond.laysFinal "AgentNetModel" "AgentNetModel" "pairs" "[I") ∈ fm_T0 := fm_T0_5 34 rfl rfl
theorem q_996 : (Jvm.Cond.laysFinal "AgentNetModel" "AgentNetModel" "first" "[J") ∈ fm_T0 := fm_T0_5 36 rfl rfl
theorem q_998 : (Jvm.Cond.laysFinal "AgentNetModel" "AgentNetModel" "second" "[J") ∈ fm_T0 := fm_T0_5 38 rfl rfl
theorem q_1000 : (Jvm.Cond.lays "AgentNetModel" "AgentNetModel" "reached" "I") ∈ fm_T0 := fm_T0_5 40 rfl rfl
theorem q_1002 : (Jvm.Cond.laysFinal "AgentNetModel" "AgentNetModel" "order" "[I") ∈ fm_T0 := fm_T0_5 42 rfl rfl
theorem q_1004 : (Jvm.Cond.laysFinal "AgentNetModel" "AgentNetModel" "rank" "[I") ∈ fm_T0 := fm_T0_5 44 rfl rfl
theorem q_1006 : (Jvm.Cond.laysFinal "AgentNetModel" "AgentNetModel" "heads" "[J") ∈ fm_T0 := fm_T0_5 46 rfl rfl
theorem q_1008 : (Jvm.Cond.laysFinal "AgentNetModel" "AgentNetModel" "tails" "[J") ∈ fm_T0 := fm_T0_5 48 rfl rfl
theorem q_1010 : (Jvm.Cond.lays "AgentNetModel" "AgentNetModel" "under" "I") ∈ fm_T0 := fm_T0_5 50 rfl rfl
theorem q_1012 : (Jvm.Cond.laysFinal "AgentNetModel" "AgentNetModel" "receipt" "[Z") ∈ fm_T0 := fm_T0_5 52 rfl rfl
theorem q_1014 : (Jvm.Cond.laysFinal "AgentNetModel" "AgentNetModel" "who" "[I") ∈ fm_T0 := fm_T0_5 54 rfl rfl
theorem q_1016 : (Jvm.Cond.laysFinal "AgentNetModel" "AgentNetModel" "far" "[I") ∈ fm_T0 := fm_T0_5 56 rfl rfl
theorem q_1018 : (Jvm.Cond.laysFinal "AgentNetModel" "AgentNetModel" "from" "[I") ∈ fm_T0 := fm_T0_5 58 rfl rfl
theorem q_1020 : (Jvm.Cond.laysFinal "AgentNetModel" "AgentNetModel" "to" "[I") ∈ fm_T0 := fm_T0_5 60 rfl rfl
theorem q_1022 : (Jvm.Cond.laysFinal "AgentNetModel" "AgentNetModel" "long1" "[I") ∈ fm_T0 := fm_T0_5 62 rfl rfl
theorem q_1024 : (Jvm.Cond.laysFinal "AgentNetModel" "AgentNetModel" "image" "[I") ∈ fm_T0 := fm_T0_5 64 rfl rfl
theorem q_1026 : (Jvm.Cond.lays "AgentNetModel" "AgentNetModel" "at" "I") ∈ fm_T0 := fm_T0_5 66 rfl rfl
theorem q_1028 : (Jvm.Cond.lays "AgentNetModel" "AgentNetModel" "freeHost" "I") ∈ fm_T0 := fm_T0_5 68 rfl rfl
theorem q_1030 : (Jvm.Cond.lays "AgentNetModel" "AgentNetModel" "born" "Z") ∈ fm_T0 := fm_T0_5 70 rfl rfl
theorem q_1032 : (Jvm.Cond.lays "AgentNetModel" "AgentNetModel" "freeCount" "I") ∈ fm_T0 := fm_T0_5 72 rfl rfl
theorem q_1034 : (Jvm.Cond.laysFinal "AgentNetModel" "AgentNetModel" "freeWords" "[I") ∈ fm_T0 := fm_T0_5 74 rfl rfl
theorem q_1036 : (Jvm.Cond.lays "AgentNetModel" "AgentNetModel" "ended" "Z") ∈ fm_T0 := fm_T0_5 76 rfl rfl
theorem q_1039 : (Jvm.Cond.methodLink "AgentNetLaw" (65 : Nat) ({ cls := "AgentNetModel", name := "thrown", desc := "()I" } : Jvm.MethodName)) ∈ fm_T0 := fm_T0_5 79 rfl rfl
theorem q_1040 : (Jvm.Cond.instanceMethod ({ cls := "AgentNetModel", name := "thrown", desc := "()I" } : Jvm.MethodName)) ∈ fm_T0 := fm_T0_5 80 rfl rfl
theorem q_1041 : (Jvm.Cond.selects "AgentNetModel" ({ cls := "AgentNetModel", name := "thrown", desc := "()I" } : Jvm.MethodName) ({ cls := "AgentNetModel", name := "thrown", desc := "()I" } : Jvm.MethodName)) ∈ fm_T0 := fm_T0_5 81 rfl rfl
theorem q_1042 : (Jvm.Cond.code ({ cls := "AgentNetModel", name := "thrown", desc := "()I" } : Jvm.MethodName) prog_13_method_2_code (1 : Nat) (Option.some Jvm.ClassFile.FieldType.int)) ∈ fm_T0 := fm_T0_5 82 rfl rfl
theorem q_1043 : (Jvm.Cond.methodLink "AgentNetLaw" (53 : Nat) ({ cls := "AgentNetModel", name := "program", desc := "(IJI)I" } : Jvm.MethodName)) ∈ fm_T0 := fm_T0_5 83 rfl rfl
theorem q_1044 : (Jvm.Cond.instanceMethod ({ cls := "AgentNetModel", name := "program", desc := "(IJI)I" } : Jvm.MethodName)) ∈ fm_T0 := fm_T0_5 84 rfl rfl
theorem q_1045 : (Jvm.Cond.selects "AgentNetModel" ({ cls := "AgentNetModel", name := "program", desc := "(IJI)I" } : Jvm.MethodName) ({ cls := "AgentNetModel", name := "program", desc := "(IJI)I" } : Jvm.MethodName)) ∈ fm_T0 := fm_T0_5 85 rfl rfl
theorem q_1046 : (Jvm.Cond.code ({ cls := "AgentNetModel", name := "program", desc := "(IJI)I" } : Jvm.MethodName) prog_13_method_17_code (6 : Nat) (Option.some Jvm.ClassFile.FieldType.int)) ∈ fm_T0 := fm_T0_5 86 rfl rfl
theorem q_1047 : (Jvm.Cond.methodLink "AgentNetModel" (171 : Nat) ({ cls := "AgentNetModel", name := "within", desc := "(III)Z" } : Jvm.MethodName)) ∈ fm_T0 := fm_T0_5 87 rfl rfl
theorem q_1048 : (Jvm.Cond.static ({ cls := "AgentNetModel", name := "within", desc := "(III)Z" } : Jvm.MethodName)) ∈ fm_T0 := fm_T0_5 88 rfl rfl
theorem q_1049 : (Jvm.Cond.code ({ cls := "AgentNetModel", name := "within", desc := "(III)Z" } : Jvm.MethodName) prog_13_method_4_code (3 : Nat) (Option.some Jvm.ClassFile.FieldType.boolean)) ∈ fm_T0 := fm_T0_5 89 rfl rfl
theorem q_1050 : (Jvm.Cond.constantLong "AgentNetModel" (178 : Nat) (255 : Int64)) ∈ fm_T0 := fm_T0_5 90 rfl rfl
theorem q_1051 : (Jvm.Cond.methodLink "AgentNetLaw" (58 : Nat) ({ cls := "AgentNetModel", name := "table", desc := "(III)Z" } : Jvm.MethodName)) ∈ fm_T0 := fm_T0_5 91 rfl rfl
theorem q_1052 : (Jvm.Cond.instanceMethod ({ cls := "AgentNetModel", name := "table", desc := "(III)Z" } : Jvm.MethodName)) ∈ fm_T0 := fm_T0_5 92 rfl rfl
theorem q_1053 : (Jvm.Cond.selects "AgentNetModel" ({ cls := "AgentNetModel", name := "table", desc := "(III)Z" } : Jvm.MethodName) ({ cls := "AgentNetModel", name := "table", desc := "(III)Z" } : Jvm.MethodName)) ∈ fm_T0 := fm_T0_5 93 rfl rfl
theorem q_1054 : (Jvm.Cond.code ({ cls := "AgentNetModel", name := "table", desc := "(III)Z" } : Jvm.MethodName) prog_13_method_18_code (4 : Nat) (Option.some Jvm.ClassFile.FieldType.boolean)) ∈ fm_T0 := fm_T0_5 94 rfl rfl
theorem q_1055 : (Jvm.Cond.methodLink "AgentNetLaw" (64 : Nat) ({ cls := "AgentNetModel", name := "launch", desc := "(III)I" } : Jvm.MethodName)) ∈ fm_T0 := fm_T0_5 95 rfl rfl
theorem q_1056 : (Jvm.Cond.instanceMethod ({ cls := "AgentNetModel", name := "launch", desc := "(III)I" } : Jvm.MethodName)) ∈ fm_T0 := fm_T0_5 96 rfl rfl
theorem q_1057 : (Jvm.Cond.selects "AgentNetModel" ({ cls := "AgentNetModel", name := "launch", desc := "(III)I" } : Jvm.MethodName) ({ cls := "AgentNetModel", name := "launch", desc := "(III)I" } : Jvm.MethodName)) ∈ fm_T0 := fm_T0_5 97 rfl rfl
theorem q_1058 : (Jvm.Cond.code ({ cls := "AgentNetModel", name := "launch", desc := "(III)I" } : Jvm.MethodName) prog_13_method_20_code (4 : Nat) (Option.some Jvm.ClassFile.FieldType.int)) ∈ fm_T0 := fm_T0_5 98 rfl rfl
theorem q_1059 : (Jvm.Cond.methodLink "AgentNetModel" (180 : Nat) ({ cls := "AgentNetModel", name := "refuse", desc := "(I)I" } : Jvm.MethodName)) ∈ fm_T0 := fm_T0_5 99 rfl rfl
theorem q_1061 : (Jvm.Cond.instanceMethod ({ cls := "AgentNetModel", name := "refuse", desc := "(I)I" } : Jvm.MethodName)) ∈ fm_T0 := fm_T0_5 101 rfl rfl
theorem q_1062 : (Jvm.Cond.code ({ cls := "AgentNetModel", name := "refuse", desc := "(I)I" } : Jvm.MethodName) prog_13_method_3_code (2 : Nat) (Option.some Jvm.ClassFile.FieldType.int)) ∈ fm_T0 := fm_T0_5 102 rfl rfl
theorem q_1063 : (Jvm.Cond.methodLink "AgentNetModel" (183 : Nat) ({ cls := "AgentNetModel", name := "fresh", desc := "(II)V" } : Jvm.MethodName)) ∈ fm_T0 := fm_T0_5 103 rfl rfl
theorem q_1065 : (Jvm.Cond.instanceMethod ({ cls := "AgentNetModel", name := "fresh", desc := "(II)V" } : Jvm.MethodName)) ∈ fm_T0 := fm_T0_5 105 rfl rfl
theorem q_1066 : (Jvm.Cond.code ({ cls := "AgentNetModel", name := "fresh", desc := "(II)V" } : Jvm.MethodName) prog_13_method_19_code (3 : Nat) (Option.none : Option Jvm.ClassFile.FieldType)) ∈ fm_T0 := fm_T0_5 106 rfl rfl
theorem q_1067 : (Jvm.Cond.methodLink "AgentNetModel" (186 : Nat) ({ cls := "AgentNetModel", name := "arriveAt", desc := "(III)V" } : Jvm.MethodName)) ∈ fm_T0 := fm_T0_5 107 rfl rfl
theorem q_1069 : (Jvm.Cond.instanceMethod ({ cls := "AgentNetModel", name := "arriveAt", desc := "(III)V" } : Jvm.MethodName)) ∈ fm_T0 := fm_T0_5 109 rfl rfl
theorem q_1070 : (Jvm.Cond.code ({ cls := "AgentNetModel", name := "arriveAt", desc := "(III)V" } : Jvm.MethodName) prog_13_method_8_code (4 : Nat) (Option.none : Option Jvm.ClassFile.FieldType)) ∈ fm_T0 := fm_T0_5 110 rfl rfl
theorem q_1071 : (Jvm.Cond.methodLink "AgentNetLaw" (72 : Nat) ({ cls := "AgentNetModel", name := "step", desc := "(II)I" } : Jvm.MethodName)) ∈ fm_T0 := fm_T0_5 111 rfl rfl
theorem q_1072 : (Jvm.Cond.instanceMethod ({ cls := "AgentNetModel", name := "step", desc := "(II)I" } : Jvm.MethodName)) ∈ fm_T0 := fm_T0_5 112 rfl rfl
theorem q_1073 : (Jvm.Cond.selects "AgentNetModel" ({ cls := "AgentNetModel", name := "step", desc := "(II)I" } : Jvm.MethodName) ({ cls := "AgentNetModel", name := "step", desc := "(II)I" } : Jvm.MethodName)) ∈ fm_T0 := fm_T0_5 113 rfl rfl
theorem q_1074 : (Jvm.Cond.code ({ cls := "AgentNetModel", name := "step", desc := "(II)I" } : Jvm.MethodName) prog_13_method_36_code (8 : Nat) (Option.some Jvm.ClassFile.FieldType.int)) ∈ fm_T0 := fm_T0_5 114 rfl rfl
theorem q_1075 : (Jvm.Cond.methodLink "AgentNetModel" (262 : Nat) ({ cls := "AgentNetModel", name := "wrongAt", desc := "(IZ)I" } : Jvm.MethodName)) ∈ fm_T0 := fm_T0_5 115 rfl rfl
theorem q_1077 : (Jvm.Cond.instanceMethod ({ cls := "AgentNetModel", name := "wrongAt", desc := "(IZ)I" } : Jvm.MethodName)) ∈ fm_T0 := fm_T0_5 117 rfl rfl
theorem q_1078 : (Jvm.Cond.code ({ cls := "AgentNetModel", name := "wrongAt", desc := "(IZ)I" } : Jvm.MethodName) prog_13_method_35_code (3 : Nat) (Option.some Jvm.ClassFile.FieldType.int)) ∈ fm_T0 := fm_T0_5 118 rfl rfl
theorem q_1079 : (Jvm.Cond.methodLink "AgentNetModel" (266 : Nat) ({ cls := "AgentNetModel", name := "work", desc := "(II)Z" } : Jvm.MethodName)) ∈ fm_T0 := fm_T0_5 119 rfl rfl
theorem q_1081 : (Jvm.Cond.instanceMethod ({ cls := "AgentNetModel", name := "work", desc := "(II)Z" } : Jvm.MethodName)) ∈ fm_T0 := fm_T0_5 121 rfl rfl
theorem q_1082 : (Jvm.Cond.code ({ cls := "AgentNetModel", name := "work", desc := "(II)Z" } : Jvm.MethodName) prog_13_method_34_code (9 : Nat) (Option.some Jvm.ClassFile.FieldType.boolean)) ∈ fm_T0 := fm_T0_5 122 rfl rfl
theorem q_1083 : (Jvm.Cond.methodLink "AgentNetModel" (251 : Nat) ({ cls := "AgentNetModel", name := "isWide", desc := "(I)Z" } : Jvm.MethodName)) ∈ fm_T0 := fm_T0_5 123 rfl rfl
theorem q_1084 : (Jvm.Cond.static ({ cls := "AgentNetModel", name := "isWide", desc := "(I)Z" } : Jvm.MethodName)) ∈ fm_T0 := fm_T0_5 124 rfl rfl
theorem q_1085 : (Jvm.Cond.code ({ cls := "AgentNetModel", name := "isWide", desc := "(I)Z" } : Jvm.MethodName) prog_13_method_21_code (1 : Nat) (Option.some Jvm.ClassFile.FieldType.boolean)) ∈ fm_T0 := fm_T0_5 125 rfl rfl
theorem q_1086 : (Jvm.Cond.methodLink "AgentNetModel" (255 : Nat) ({ cls := "AgentNetModel", name := "isFit", desc := "(III)Z" } : Jvm.MethodName)) ∈ fm_T0 := fm_T0_5 126 rfl rfl
theorem q_1088 : (Jvm.Cond.instanceMethod ({ cls := "AgentNetModel", name := "isFit", desc := "(III)Z" } : Jvm.MethodName)) ∈ fm_T0 := fm_T0_5 128 rfl rfl
theorem q_1089 : (Jvm.Cond.code ({ cls := "AgentNetModel", name := "isFit", desc := "(III)Z" } : Jvm.MethodName) prog_13_method_24_code (4 : Nat) (Option.some Jvm.ClassFile.FieldType.boolean)) ∈ fm_T0 := fm_T0_5 129 rfl rfl
theorem q_1090 : (Jvm.Cond.methodLink "AgentNetModel" (194 : Nat) ({ cls := "AgentNetModel", name := "isInt", desc := "(II)Z" } : Jvm.MethodName)) ∈ fm_T0 := fm_T0_5 130 rfl rfl
theorem q_1092 : (Jvm.Cond.instanceMethod ({ cls := "AgentNetModel", name := "isInt", desc := "(II)Z" } : Jvm.MethodName)) ∈ fm_T0 := fm_T0_5 132 rfl rfl
theorem q_1093 : (Jvm.Cond.code ({ cls := "AgentNetModel", name := "isInt", desc := "(II)Z" } : Jvm.MethodName) prog_13_method_22_code (3 : Nat) (Option.some Jvm.ClassFile.FieldType.boolean)) ∈ fm_T0 := fm_T0_5 133 rfl rfl
theorem q_1094 : (Jvm.Cond.methodLink "AgentNetModel" (190 : Nat) ({ cls := "AgentNetModel", name := "top", desc := "(II)J" } : Jvm.MethodName)) ∈ fm_T0 := fm_T0_5 134 rfl rfl
theorem q_1096 : (Jvm.Cond.instanceMethod ({ cls := "AgentNetModel", name := "top", desc := "(II)J" } : Jvm.MethodName)) ∈ fm_T0 := fm_T0_5 136 rfl rfl
theorem q_1097 : (Jvm.Cond.code ({ cls := "AgentNetModel", name := "top", desc := "(II)J" } : Jvm.MethodName) prog_13_method_12_code (3 : Nat) (Option.some Jvm.ClassFile.FieldType.long)) ∈ fm_T0 := fm_T0_5 137 rfl rfl
theorem q_1098 : (Jvm.Cond.constantLong "AgentNetModel" (150 : Nat) (1099511627776 : Int64)) ∈ fm_T0 := fm_T0_5 138 rfl rfl
theorem q_1099 : (Jvm.Cond.methodLink "AgentNetModel" (198 : Nat) ({ cls := "AgentNetModel", name := "isUpTo", desc := "(II)Z" } : Jvm.MethodName)) ∈ fm_T0 := fm_T0_5 139 rfl rfl
theorem q_1101 : (Jvm.Cond.instanceMethod ({ cls := "AgentNetModel", name := "isUpTo", desc := "(II)Z" } : Jvm.MethodName)) ∈ fm_T0 := fm_T0_5 141 rfl rfl
theorem q_1102 : (Jvm.Cond.code ({ cls := "AgentNetModel", name := "isUpTo", desc := "(II)Z" } : Jvm.MethodName) prog_13_method_23_code (3 : Nat) (Option.some Jvm.ClassFile.FieldType.boolean)) ∈ fm_T0 := fm_T0_5 142 rfl rfl
theorem q_1103 : (Jvm.Cond.methodLink "AgentNetModel" (163 : Nat) ({ cls := "AgentNetModel", name := "reach", desc := "(I)I" } : Jvm.MethodName)) ∈ fm_T0 := fm_T0_5 143 rfl rfl
theorem q_1105 : (Jvm.Cond.instanceMethod ({ cls := "AgentNetModel", name := "reach", desc := "(I)I" } : Jvm.MethodName)) ∈ fm_T0 := fm_T0_5 145 rfl rfl
theorem q_1106 : (Jvm.Cond.code ({ cls := "AgentNetModel", name := "reach", desc := "(I)I" } : Jvm.MethodName) prog_13_method_14_code (3 : Nat) (Option.some Jvm.ClassFile.FieldType.int)) ∈ fm_T0 := fm_T0_5 146 rfl rfl
theorem q_1107 : (Jvm.Cond.methodLink "AgentNetModel" (159 : Nat) ({ cls := "AgentNetModel", name := "meet", desc := "(J)V" } : Jvm.MethodName)) ∈ fm_T0 := fm_T0_5 147 rfl rfl
theorem q_1109 : (Jvm.Cond.instanceMethod ({ cls := "AgentNetModel", name := "meet", desc := "(J)V" } : Jvm.MethodName)) ∈ fm_T0 := fm_T0_5 149 rfl rfl
theorem q_1110 : (Jvm.Cond.code ({ cls := "AgentNetModel", name := "meet", desc := "(J)V" } : Jvm.MethodName) prog_13_method_13_code (3 : Nat) (Option.none : Option Jvm.ClassFile.FieldType)) ∈ fm_T0 := fm_T0_5 150 rfl rfl
theorem q_1111 : (Jvm.Cond.methodLink "AgentNetModel" (152 : Nat) ({ cls := "AgentNetModel", name := "pairOf", desc := "(J)I" } : Jvm.MethodName)) ∈ fm_T0 := fm_T0_5 151 rfl rfl
theorem q_1112 : (Jvm.Cond.static ({ cls := "AgentNetModel", name := "pairOf", desc := "(J)I" } : Jvm.MethodName)) ∈ fm_T0 := fm_T0_5 152 rfl rfl
theorem q_1113 : (Jvm.Cond.code ({ cls := "AgentNetModel", name := "pairOf", desc := "(J)I" } : Jvm.MethodName) prog_13_method_9_code (2 : Nat) (Option.some Jvm.ClassFile.FieldType.int)) ∈ fm_T0 := fm_T0_5 153 rfl rfl
theorem q_1114 : (Jvm.Cond.methodLink "AgentNetModel" (258 : Nat) ({ cls := "AgentNetModel", name := "perform", desc := "(IIII)V" } : Jvm.MethodName)) ∈ fm_T0 := fm_T0_5 154 rfl rfl
theorem q_1116 : (Jvm.Cond.instanceMethod ({ cls := "AgentNetModel", name := "perform", desc := "(IIII)V" } : Jvm.MethodName)) ∈ fm_T0 := fm_T0_5 156 rfl rfl
theorem q_1117 : (Jvm.Cond.code ({ cls := "AgentNetModel", name := "perform", desc := "(IIII)V" } : Jvm.MethodName) prog_13_method_33_code (5 : Nat) (Option.none : Option Jvm.ClassFile.FieldType)) ∈ fm_T0 := fm_T0_5 157 rfl rfl
theorem q_1118 : (Jvm.Cond.methodLink "AgentNetModel" (201 : Nat) ({ cls := "AgentNetModel", name := "push", desc := "(IJ)V" } : Jvm.MethodName)) ∈ fm_T0 := fm_T0_5 158 rfl rfl
theorem q_1120 : (Jvm.Cond.instanceMethod ({ cls := "AgentNetModel", name := "push", desc := "(IJ)V" } : Jvm.MethodName)) ∈ fm_T0 := fm_T0_5 160 rfl rfl
theorem q_1121 : (Jvm.Cond.code ({ cls := "AgentNetModel", name := "push", desc := "(IJ)V" } : Jvm.MethodName) prog_13_method_10_code (4 : Nat) (Option.none : Option Jvm.ClassFile.FieldType)) ∈ fm_T0 := fm_T0_5 161 rfl rfl
theorem q_1122 : (Jvm.Cond.methodLink "AgentNetModel" (230 : Nat) ({ cls := "AgentNetModel", name := "compute", desc := "(II)V" } : Jvm.MethodName)) ∈ fm_T0 := fm_T0_5 162 rfl rfl
theorem q_1124 : (Jvm.Cond.instanceMethod ({ cls := "AgentNetModel", name := "compute", desc := "(II)V" } : Jvm.MethodName)) ∈ fm_T0 := fm_T0_5 164 rfl rfl
theorem q_1125 : (Jvm.Cond.code ({ cls := "AgentNetModel", name := "compute", desc := "(II)V" } : Jvm.MethodName) prog_13_method_30_code (5 : Nat) (Option.none : Option Jvm.ClassFile.FieldType)) ∈ fm_T0 := fm_T0_5 165 rfl rfl
theorem q_1126 : (Jvm.Cond.methodLink "AgentNetModel" (223 : Nat) ({ cls := "AgentNetModel", name := "pop", desc := "(I)J" } : Jvm.MethodName)) ∈ fm_T0 := fm_T0_5 166 rfl rfl
theorem q_1128 : (Jvm.Cond.instanceMethod ({ cls := "AgentNetModel", name := "pop", desc := "(I)J" } : Jvm.MethodName)) ∈ fm_T0 := fm_T0_5 168 rfl rfl
theorem q_1129 : (Jvm.Cond.code ({ cls := "AgentNetModel", name := "pop", desc := "(I)J" } : Jvm.MethodName) prog_13_method_11_code (2 : Nat) (Option.some Jvm.ClassFile.FieldType.long)) ∈ fm_T0 := fm_T0_5 169 rfl rfl
theorem q_1130 : (Jvm.Cond.methodLink "AgentNetModel" (233 : Nat) ({ cls := "AgentNetModel", name := "speak", desc := "(III)V" } : Jvm.MethodName)) ∈ fm_T0 := fm_T0_5 170 rfl rfl
theorem q_1132 : (Jvm.Cond.instanceMethod ({ cls := "AgentNetModel", name := "speak", desc := "(III)V" } : Jvm.MethodName)) ∈ fm_T0 := fm_T0_5 172 rfl rfl
theorem q_1133 : (Jvm.Cond.code ({ cls := "AgentNetModel", name := "speak", desc := "(III)V" } : Jvm.MethodName) prog_13_method_26_code (4 : Nat) (Option.none : Option Jvm.ClassFile.FieldType)) ∈ fm_T0 := fm_T0_5 173 rfl rfl
theorem q_1134 : (Jvm.Cond.methodLink "AgentNetModel" (236 : Nat) ({ cls := "AgentNetModel", name := "travel", desc := "(III)V" } : Jvm.MethodName)) ∈ fm_T0 := fm_T0_5 174 rfl rfl
theorem q_1136 : (Jvm.Cond.instanceMethod ({ cls := "AgentNetModel", name := "travel", desc := "(III)V" } : Jvm.MethodName)) ∈ fm_T0 := fm_T0_5 176 rfl rfl
theorem q_1137 : (Jvm.Cond.code ({ cls := "AgentNetModel", name := "travel", desc := "(III)V" } : Jvm.MethodName) prog_13_method_27_code (4 : Nat) (Option.none : Option Jvm.ClassFile.FieldType)) ∈ fm_T0 := fm_T0_5 177 rfl rfl
theorem q_1138 : (Jvm.Cond.methodLink "AgentNetModel" (239 : Nat) ({ cls := "AgentNetModel", name := "cloning", desc := "(III)V" } : Jvm.MethodName)) ∈ fm_T0 := fm_T0_5 178 rfl rfl
theorem q_1140 : (Jvm.Cond.instanceMethod ({ cls := "AgentNetModel", name := "cloning", desc := "(III)V" } : Jvm.MethodName)) ∈ fm_T0 := fm_T0_5 180 rfl rfl
theorem q_1141 : (Jvm.Cond.code ({ cls := "AgentNetModel", name := "cloning", desc := "(III)V" } : Jvm.MethodName) prog_13_method_28_code (6 : Nat) (Option.none : Option Jvm.ClassFile.FieldType)) ∈ fm_T0 := fm_T0_5 181 rfl rfl
theorem q_1142 : (Jvm.Cond.constantLong "AgentNetModel" (211 : Nat) (-1 : Int64)) ∈ fm_T0 := fm_T0_5 182 rfl rfl
theorem q_1143 : (Jvm.Cond.methodLink "AgentNetModel" (213 : Nat) ({ cls := "AgentNetModel", name := "bear", desc := "(III)V" } : Jvm.MethodName)) ∈ fm_T0 := fm_T0_5 183 rfl rfl
theorem q_1145 : (Jvm.Cond.instanceMethod ({ cls := "AgentNetModel", name := "bear", desc := "(III)V" } : Jvm.MethodName)) ∈ fm_T0 := fm_T0_5 185 rfl rfl
theorem q_1146 : (Jvm.Cond.code ({ cls := "AgentNetModel", name := "bear", desc := "(III)V" } : Jvm.MethodName) prog_13_method_25_code (4 : Nat) (Option.none : Option Jvm.ClassFile.FieldType)) ∈ fm_T0 := fm_T0_5 186 rfl rfl
theorem q_1147 : (Jvm.Cond.methodLink "AgentNetModel" (146 : Nat) ({ cls := "AgentNetModel", name := "moveAgent", desc := "(II)V" } : Jvm.MethodName)) ∈ fm_T0 := fm_T0_5 187 rfl rfl
theorem q_1149 : (Jvm.Cond.instanceMethod ({ cls := "AgentNetModel", name := "moveAgent", desc := "(II)V" } : Jvm.MethodName)) ∈ fm_T0 := fm_T0_5 189 rfl rfl
theorem q_1150 : (Jvm.Cond.code ({ cls := "AgentNetModel", name := "moveAgent", desc := "(II)V" } : Jvm.MethodName) prog_13_method_6_code (4 : Nat) (Option.none : Option Jvm.ClassFile.FieldType)) ∈ fm_T0 := fm_T0_5 190 rfl rfl
theorem q_1151 : (Jvm.Cond.methodLink "AgentNetModel" (242 : Nat) ({ cls := "AgentNetModel", name := "newPair", desc := "(I)V" } : Jvm.MethodName)) ∈ fm_T0 := fm_T0_5 191 rfl rfl
theorem q_1153 : (Jvm.Cond.instanceMethod ({ cls := "AgentNetModel", name := "newPair", desc := "(I)V" } : Jvm.MethodName)) ∈ fm_T0 := fm_T0_5 193 rfl rfl
theorem q_1154 : (Jvm.Cond.code ({ cls := "AgentNetModel", name := "newPair", desc := "(I)V" } : Jvm.MethodName) prog_13_method_29_code (6 : Nat) (Option.none : Option Jvm.ClassFile.FieldType)) ∈ fm_T0 := fm_T0_5 194 rfl rfl
theorem q_1155 : (Jvm.Cond.methodLink "AgentNetModel" (220 : Nat) ({ cls := "AgentNetModel", name := "tidy", desc := "(I)V" } : Jvm.MethodName)) ∈ fm_T0 := fm_T0_5 195 rfl rfl
theorem q_1157 : (Jvm.Cond.instanceMethod ({ cls := "AgentNetModel", name := "tidy", desc := "(I)V" } : Jvm.MethodName)) ∈ fm_T0 := fm_T0_5 197 rfl rfl
theorem q_1158 : (Jvm.Cond.code ({ cls := "AgentNetModel", name := "tidy", desc := "(I)V" } : Jvm.MethodName) prog_13_method_16_code (4 : Nat) (Option.none : Option Jvm.ClassFile.FieldType)) ∈ fm_T0 := fm_T0_5 198 rfl rfl
theorem q_1159 : (Jvm.Cond.methodLink "AgentNetModel" (167 : Nat) ({ cls := "AgentNetModel", name := "renamed", desc := "(J)J" } : Jvm.MethodName)) ∈ fm_T0 := fm_T0_5 199 rfl rfl
theorem q_1161 : (Jvm.Cond.instanceMethod ({ cls := "AgentNetModel", name := "renamed", desc := "(J)J" } : Jvm.MethodName)) ∈ fm_T0 := fm_T0_5 201 rfl rfl
theorem q_1162 : (Jvm.Cond.code ({ cls := "AgentNetModel", name := "renamed", desc := "(J)J" } : Jvm.MethodName) prog_13_method_15_code (3 : Nat) (Option.some Jvm.ClassFile.FieldType.long)) ∈ fm_T0 := fm_T0_5 202 rfl rfl
theorem q_1163 : (Jvm.Cond.methodLink "AgentNetModel" (245 : Nat) ({ cls := "AgentNetModel", name := "put", desc := "(II)V" } : Jvm.MethodName)) ∈ fm_T0 := fm_T0_5 203 rfl rfl
theorem q_1165 : (Jvm.Cond.instanceMethod ({ cls := "AgentNetModel", name := "put", desc := "(II)V" } : Jvm.MethodName)) ∈ fm_T0 := fm_T0_5 205 rfl rfl
theorem q_1166 : (Jvm.Cond.code ({ cls := "AgentNetModel", name := "put", desc := "(II)V" } : Jvm.MethodName) prog_13_method_32_code (6 : Nat) (Option.none : Option Jvm.ClassFile.FieldType)) ∈ fm_T0 := fm_T0_5 206 rfl rfl
theorem q_1167 : (Jvm.Cond.methodLink "AgentNetModel" (248 : Nat) ({ cls := "AgentNetModel", name := "compare", desc := "(I)V" } : Jvm.MethodName)) ∈ fm_T0 := fm_T0_5 207 rfl rfl
theorem q_1169 : (Jvm.Cond.instanceMethod ({ cls := "AgentNetModel", name := "compare", desc := "(I)V" } : Jvm.MethodName)) ∈ fm_T0 := fm_T0_5 209 rfl rfl
theorem q_1170 : (Jvm.Cond.code ({ cls := "AgentNetModel", name := "compare", desc := "(I)V" } : Jvm.MethodName) prog_13_method_31_code (6 : Nat) (Option.none : Option Jvm.ClassFile.FieldType)) ∈ fm_T0 := fm_T0_5 210 rfl rfl
theorem q_1171 : (Jvm.Cond.methodLink "AgentNetLaw" (76 : Nat) ({ cls := "AgentNetModel", name := "tick", desc := "(I)I" } : Jvm.MethodName)) ∈ fm_T0 := fm_T0_5 211 rfl rfl
theorem q_1172 : (Jvm.Cond.instanceMethod ({ cls := "AgentNetModel", name := "tick", desc := "(I)I" } : Jvm.MethodName)) ∈ fm_T0 := fm_T0_5 212 rfl rfl
theorem q_1173 : (Jvm.Cond.selects "AgentNetModel" ({ cls := "AgentNetModel", name := "tick", desc := "(I)I" } : Jvm.MethodName) ({ cls := "AgentNetModel", name := "tick", desc := "(I)I" } : Jvm.MethodName)) ∈ fm_T0 := fm_T0_5 213 rfl rfl
theorem q_1174 : (Jvm.Cond.code ({ cls := "AgentNetModel", name := "tick", desc := "(I)I" } : Jvm.MethodName) prog_13_method_41_code (4 : Nat) (Option.some Jvm.ClassFile.FieldType.int)) ∈ fm_T0 := fm_T0_5 214 rfl rfl
theorem q_1175 : (Jvm.Cond.methodLink "AgentNetModel" (281 : Nat) ({ cls := "AgentNetModel", name := "post", desc := "(ZIIII)I" } : Jvm.MethodName)) ∈ fm_T0 := fm_T0_5 215 rfl rfl
theorem q_1177 : (Jvm.Cond.instanceMethod ({ cls := "AgentNetModel", name := "post", desc := "(ZIIII)I" } : Jvm.MethodName)) ∈ fm_T0 := fm_T0_5 217 rfl rfl
theorem q_1178 : (Jvm.Cond.code ({ cls := "AgentNetModel", name := "post", desc := "(ZIIII)I" } : Jvm.MethodName) prog_13_method_37_code (6 : Nat) (Option.some Jvm.ClassFile.FieldType.int)) ∈ fm_T0 := fm_T0_5 218 rfl rfl
theorem q_1179 : (Jvm.Cond.methodLink "AgentNetModel" (285 : Nat) ({ cls := "AgentNetModel", name := "pack", desc := "(II)V" } : Jvm.MethodName)) ∈ fm_T0 := fm_T0_5 219 rfl rfl
theorem q_1181 : (Jvm.Cond.instanceMethod ({ cls := "AgentNetModel", name := "pack", desc := "(II)V" } : Jvm.MethodName)) ∈ fm_T0 := fm_T0_5 221 rfl rfl
theorem q_1182 : (Jvm.Cond.code ({ cls := "AgentNetModel", name := "pack", desc := "(II)V" } : Jvm.MethodName) prog_13_method_40_code (5 : Nat) (Option.none : Option Jvm.ClassFile.FieldType)) ∈ fm_T0 := fm_T0_5 222 rfl rfl
theorem q_1183 : (Jvm.Cond.methodLink "AgentNetModel" (275 : Nat) ({ cls := "AgentNetModel", name := "say", desc := "(I)V" } : Jvm.MethodName)) ∈ fm_T0 := fm_T0_5 223 rfl rfl
theorem q_1185 : (Jvm.Cond.instanceMethod ({ cls := "AgentNetModel", name := "say", desc := "(I)V" } : Jvm.MethodName)) ∈ fm_T0 := fm_T0_5 225 rfl rfl
theorem q_1186 : (Jvm.Cond.code ({ cls := "AgentNetModel", name := "say", desc := "(I)V" } : Jvm.MethodName) prog_13_method_38_code (2 : Nat) (Option.none : Option Jvm.ClassFile.FieldType)) ∈ fm_T0 := fm_T0_5 226 rfl rfl
theorem q_1187 : (Jvm.Cond.methodLink "AgentNetModel" (278 : Nat) ({ cls := "AgentNetModel", name := "sayValue", desc := "(J)V" } : Jvm.MethodName)) ∈ fm_T0 := fm_T0_5 227 rfl rfl
theorem q_1189 : (Jvm.Cond.instanceMethod ({ cls := "AgentNetModel", name := "sayValue", desc := "(J)V" } : Jvm.MethodName)) ∈ fm_T0 := fm_T0_5 229 rfl rfl
theorem q_1190 : (Jvm.Cond.code ({ cls := "AgentNetModel", name := "sayValue", desc := "(J)V" } : Jvm.MethodName) prog_13_method_39_code (4 : Nat) (Option.none : Option Jvm.ClassFile.FieldType)) ∈ fm_T0 := fm_T0_5 230 rfl rfl
theorem q_1191 : (Jvm.Cond.methodLink "AgentNetLaw" (79 : Nat) ({ cls := "AgentNetModel", name := "checkpoint", desc := "(I)I" } : Jvm.MethodName)) ∈ fm_T0 := fm_T0_5 231 rfl rfl
theorem q_1192 : (Jvm.Cond.instanceMethod ({ cls := "AgentNetModel", name := "checkpoint", desc := "(I)I" } : Jvm.MethodName)) ∈ fm_T0 := fm_T0_5 232 rfl rfl
theorem q_1193 : (Jvm.Cond.selects "AgentNetModel" ({ cls := "AgentNetModel", name := "checkpoint", desc := "(I)I" } : Jvm.MethodName) ({ cls := "AgentNetModel", name := "checkpoint", desc := "(I)I" } : Jvm.MethodName)) ∈ fm_T0 := fm_T0_5 233 rfl rfl
theorem q_1194 : (Jvm.Cond.code ({ cls := "AgentNetModel", name := "checkpoint", desc := "(I)I" } : Jvm.MethodName) prog_13_method_42_code (3 : Nat) (Option.some Jvm.ClassFile.FieldType.int)) ∈ fm_T0 := fm_T0_5 234 rfl rfl
theorem q_1195 : (Jvm.Cond.methodLink "AgentNetModel" (288 : Nat) ({ cls := "AgentNetModel", name := "moveMemory", desc := "(II)V" } : Jvm.MethodName)) ∈ fm_T0 := fm_T0_5 235 rfl rfl
theorem q_1197 : (Jvm.Cond.instanceMethod ({ cls := "AgentNetModel", name := "moveMemory", desc := "(II)V" } : Jvm.MethodName)) ∈ fm_T0 := fm_T0_5 237 rfl rfl
theorem q_1198 : (Jvm.Cond.code ({ cls := "AgentNetModel", name := "moveMemory", desc := "(II)V" } : Jvm.MethodName) prog_13_method_7_code (7 : Nat) (Option.none : Option Jvm.ClassFile.FieldType)) ∈ fm_T0 := fm_T0_5 238 rfl rfl
theorem q_1199 : (Jvm.Cond.methodLink "AgentNetLaw" (82 : Nat) ({ cls := "AgentNetModel", name := "write", desc := "(II)I" } : Jvm.MethodName)) ∈ fm_T0 := fm_T0_5 239 rfl rfl
theorem q_1200 : (Jvm.Cond.instanceMethod ({ cls := "AgentNetModel", name := "write", desc := "(II)I" } : Jvm.MethodName)) ∈ fm_T0 := fm_T0_6 0 rfl rfl
theorem q_1201 : (Jvm.Cond.selects "AgentNetModel" ({ cls := "AgentNetModel", name := "write", desc := "(II)I" } : Jvm.MethodName) ({ cls := "AgentNetModel", name := "write", desc := "(II)I" } : Jvm.MethodName)) ∈ fm_T0 := fm_T0_6 1 rfl rfl
theorem q_1202 : (Jvm.Cond.code ({ cls := "AgentNetModel", name := "write", desc := "(II)I" } : Jvm.MethodName) prog_13_method_44_code (3 : Nat) (Option.some Jvm.ClassFile.FieldType.int)) ∈ fm_T0 := fm_T0_6 2 rfl rfl
theorem q_1203 : (Jvm.Cond.methodLink "AgentNetModel" (291 : Nat) ({ cls := "AgentNetModel", name := "seal", desc := "(I)V" } : Jvm.MethodName)) ∈ fm_T0 := fm_T0_6 3 rfl rfl
theorem q_1205 : (Jvm.Cond.instanceMethod ({ cls := "AgentNetModel", name := "seal", desc := "(I)V" } : Jvm.MethodName)) ∈ fm_T0 := fm_T0_6 5 rfl rfl
theorem q_1206 : (Jvm.Cond.code ({ cls := "AgentNetModel", name := "seal", desc := "(I)V" } : Jvm.MethodName) prog_13_method_43_code (7 : Nat) (Option.none : Option Jvm.ClassFile.FieldType)) ∈ fm_T0 := fm_T0_6 6 rfl rfl
theorem q_1207 : (Jvm.Cond.methodLink "AgentNetLaw" (85 : Nat) ({ cls := "AgentNetModel", name := "crash", desc := "(I)Z" } : Jvm.MethodName)) ∈ fm_T0 := fm_T0_6 7 rfl rfl
theorem q_1208 : (Jvm.Cond.instanceMethod ({ cls := "AgentNetModel", name := "crash", desc := "(I)Z" } : Jvm.MethodName)) ∈ fm_T0 := fm_T0_6 8 rfl rfl
theorem q_1209 : (Jvm.Cond.selects "AgentNetModel" ({ cls := "AgentNetModel", name := "crash", desc := "(I)Z" } : Jvm.MethodName) ({ cls := "AgentNetModel", name := "crash", desc := "(I)Z" } : Jvm.MethodName)) ∈ fm_T0 := fm_T0_6 9 rfl rfl
theorem q_1210 : (Jvm.Cond.code ({ cls := "AgentNetModel", name := "crash", desc := "(I)Z" } : Jvm.MethodName) prog_13_method_45_code (2 : Nat) (Option.some Jvm.ClassFile.FieldType.boolean)) ∈ fm_T0 := fm_T0_6 10 rfl rfl
theorem q_1211 : (Jvm.Cond.methodLink "AgentNetLaw" (88 : Nat) ({ cls := "AgentNetModel", name := "start", desc := "(I)Z" } : Jvm.MethodName)) ∈ fm_T0 := fm_T0_6 11 rfl rfl
theorem q_1212 : (Jvm.Cond.instanceMethod ({ cls := "AgentNetModel", name := "start", desc := "(I)Z" } : Jvm.MethodName)) ∈ fm_T0 := fm_T0_6 12 rfl rfl
theorem q_1213 : (Jvm.Cond.selects "AgentNetModel" ({ cls := "AgentNetModel", name := "start", desc := "(I)Z" } : Jvm.MethodName) ({ cls := "AgentNetModel", name := "start", desc := "(I)Z" } : Jvm.MethodName)) ∈ fm_T0 := fm_T0_6 13 rfl rfl
theorem q_1214 : (Jvm.Cond.code ({ cls := "AgentNetModel", name := "start", desc := "(I)Z" } : Jvm.MethodName) prog_13_method_46_code (2 : Nat) (Option.some Jvm.ClassFile.FieldType.boolean)) ∈ fm_T0 := fm_T0_6 14 rfl rfl
theorem q_1215 : (Jvm.Cond.methodLink "AgentNetLaw" (91 : Nat) ({ cls := "AgentNetModel", name := "net", desc := "(II)I" } : Jvm.MethodName)) ∈ fm_T0 := fm_T0_6 15 rfl rfl
theorem q_1216 : (Jvm.Cond.instanceMethod ({ cls := "AgentNetModel", name := "net", desc := "(II)I" } : Jvm.MethodName)) ∈ fm_T0 := fm_T0_6 16 rfl rfl
theorem q_1217 : (Jvm.Cond.selects "AgentNetModel" ({ cls := "AgentNetModel", name := "net", desc := "(II)I" } : Jvm.MethodName) ({ cls := "AgentNetModel", name := "net", desc := "(II)I" } : Jvm.MethodName)) ∈ fm_T0 := fm_T0_6 17 rfl rfl
theorem q_1218 : (Jvm.Cond.code ({ cls := "AgentNetModel", name := "net", desc := "(II)I" } : Jvm.MethodName) prog_13_method_52_code (4 : Nat) (Option.some Jvm.ClassFile.FieldType.int)) ∈ fm_T0 := fm_T0_6 18 rfl rfl
theorem q_1219 : (Jvm.Cond.methodLink "AgentNetModel" (305 : Nat) ({ cls := "AgentNetModel", name := "copyMessage", desc := "(II)V" } : Jvm.MethodName)) ∈ fm_T0 := fm_T0_6 19 rfl rfl
theorem q_1221 : (Jvm.Cond.instanceMethod ({ cls := "AgentNetModel", name := "copyMessage", desc := "(II)V" } : Jvm.MethodName)) ∈ fm_T0 := fm_T0_6 21 rfl rfl
theorem q_1222 : (Jvm.Cond.code ({ cls := "AgentNetModel", name := "copyMessage", desc := "(II)V" } : Jvm.MethodName) prog_13_method_47_code (4 : Nat) (Option.none : Option Jvm.ClassFile.FieldType)) ∈ fm_T0 := fm_T0_6 22 rfl rfl
theorem q_1223 : (Jvm.Cond.methodLink "AgentNetModel" (308 : Nat) ({ cls := "AgentNetModel", name := "deliver", desc := "()V" } : Jvm.MethodName)) ∈ fm_T0 := fm_T0_6 23 rfl rfl
theorem q_1225 : (Jvm.Cond.instanceMethod ({ cls := "AgentNetModel", name := "deliver", desc := "()V" } : Jvm.MethodName)) ∈ fm_T0 := fm_T0_6 25 rfl rfl
theorem q_1226 : (Jvm.Cond.code ({ cls := "AgentNetModel", name := "deliver", desc := "()V" } : Jvm.MethodName) prog_13_method_51_code (5 : Nat) (Option.none : Option Jvm.ClassFile.FieldType)) ∈ fm_T0 := fm_T0_6 26 rfl rfl
theorem q_1227 : (Jvm.Cond.methodLink "AgentNetModel" (302 : Nat) ({ cls := "AgentNetModel", name := "unpack", desc := "(II)V" } : Jvm.MethodName)) ∈ fm_T0 := fm_T0_6 27 rfl rfl
theorem q_1229 : (Jvm.Cond.instanceMethod ({ cls := "AgentNetModel", name := "unpack", desc := "(II)V" } : Jvm.MethodName)) ∈ fm_T0 := fm_T0_6 29 rfl rfl
theorem q_1230 : (Jvm.Cond.code ({ cls := "AgentNetModel", name := "unpack", desc := "(II)V" } : Jvm.MethodName) prog_13_method_50_code (5 : Nat) (Option.none : Option Jvm.ClassFile.FieldType)) ∈ fm_T0 := fm_T0_6 30 rfl rfl
theorem q_1231 : (Jvm.Cond.methodLink "AgentNetModel" (294 : Nat) ({ cls := "AgentNetModel", name := "hear", desc := "()I" } : Jvm.MethodName)) ∈ fm_T0 := fm_T0_6 31 rfl rfl
theorem q_1233 : (Jvm.Cond.instanceMethod ({ cls := "AgentNetModel", name := "hear", desc := "()I" } : Jvm.MethodName)) ∈ fm_T0 := fm_T0_6 33 rfl rfl
theorem q_1234 : (Jvm.Cond.code ({ cls := "AgentNetModel", name := "hear", desc := "()I" } : Jvm.MethodName) prog_13_method_48_code (1 : Nat) (Option.some Jvm.ClassFile.FieldType.int)) ∈ fm_T0 := fm_T0_6 34 rfl rfl
theorem q_1235 : (Jvm.Cond.methodLink "AgentNetModel" (298 : Nat) ({ cls := "AgentNetModel", name := "hearValue", desc := "()J" } : Jvm.MethodName)) ∈ fm_T0 := fm_T0_6 35 rfl rfl
theorem q_1237 : (Jvm.Cond.instanceMethod ({ cls := "AgentNetModel", name := "hearValue", desc := "()J" } : Jvm.MethodName)) ∈ fm_T0 := fm_T0_6 37 rfl rfl
theorem q_1238 : (Jvm.Cond.code ({ cls := "AgentNetModel", name := "hearValue", desc := "()J" } : Jvm.MethodName) prog_13_method_49_code (3 : Nat) (Option.some Jvm.ClassFile.FieldType.long)) ∈ fm_T0 := fm_T0_6 38 rfl rfl
theorem q_1239 : (Jvm.Cond.methodLink "AgentNetLaw" (95 : Nat) ({ cls := "AgentNetModel", name := "message", desc := "(II)I" } : Jvm.MethodName)) ∈ fm_T0 := fm_T0_6 39 rfl rfl
theorem q_1240 : (Jvm.Cond.instanceMethod ({ cls := "AgentNetModel", name := "message", desc := "(II)I" } : Jvm.MethodName)) ∈ fm_T0 := fm_T0_6 40 rfl rfl
theorem q_1241 : (Jvm.Cond.selects "AgentNetModel" ({ cls := "AgentNetModel", name := "message", desc := "(II)I" } : Jvm.MethodName) ({ cls := "AgentNetModel", name := "message", desc := "(II)I" } : Jvm.MethodName)) ∈ fm_T0 := fm_T0_6 41 rfl rfl
theorem q_1242 : (Jvm.Cond.code ({ cls := "AgentNetModel", name := "message", desc := "(II)I" } : Jvm.MethodName) prog_13_method_53_code (3 : Nat) (Option.some Jvm.ClassFile.FieldType.int)) ∈ fm_T0 := fm_T0_6 42 rfl rfl
theorem q_1243 : (Jvm.Cond.methodLink "AgentNetLaw" (99 : Nat) ({ cls := "AgentNetModel", name := "slot", desc := "(II)I" } : Jvm.MethodName)) ∈ fm_T0 := fm_T0_6 43 rfl rfl
theorem q_1244 : (Jvm.Cond.instanceMethod ({ cls := "AgentNetModel", name := "slot", desc := "(II)I" } : Jvm.MethodName)) ∈ fm_T0 := fm_T0_6 44 rfl rfl
theorem q_1245 : (Jvm.Cond.selects "AgentNetModel" ({ cls := "AgentNetModel", name := "slot", desc := "(II)I" } : Jvm.MethodName) ({ cls := "AgentNetModel", name := "slot", desc := "(II)I" } : Jvm.MethodName)) ∈ fm_T0 := fm_T0_6 45 rfl rfl
theorem q_1246 : (Jvm.Cond.code ({ cls := "AgentNetModel", name := "slot", desc := "(II)I" } : Jvm.MethodName) prog_13_method_54_code (3 : Nat) (Option.some Jvm.ClassFile.FieldType.int)) ∈ fm_T0 := fm_T0_6 46 rfl rfl
theorem q_1247 : (Jvm.Cond.methodLink "AgentNetLaw" (103 : Nat) ({ cls := "AgentNetModel", name := "agent", desc := "(III)I" } : Jvm.MethodName)) ∈ fm_T0 := fm_T0_6 47 rfl rfl
theorem q_1248 : (Jvm.Cond.instanceMethod ({ cls := "AgentNetModel", name := "agent", desc := "(III)I" } : Jvm.MethodName)) ∈ fm_T0 := fm_T0_6 48 rfl rfl
theorem q_1249 : (Jvm.Cond.selects "AgentNetModel" ({ cls := "AgentNetModel", name := "agent", desc := "(III)I" } : Jvm.MethodName) ({ cls := "AgentNetModel", name := "agent", desc := "(III)I" } : Jvm.MethodName)) ∈ fm_T0 := fm_T0_6 49 rfl rfl
theorem q_1250 : (Jvm.Cond.code ({ cls := "AgentNetModel", name := "agent", desc := "(III)I" } : Jvm.MethodName) prog_13_method_55_code (5 : Nat) (Option.some Jvm.ClassFile.FieldType.int)) ∈ fm_T0 := fm_T0_6 50 rfl rfl
theorem q_1251 : (Jvm.Cond.methodLink "AgentNetLaw" (107 : Nat) ({ cls := "AgentNetModel", name := "host", desc := "(II)I" } : Jvm.MethodName)) ∈ fm_T0 := fm_T0_6 51 rfl rfl
theorem q_1252 : (Jvm.Cond.instanceMethod ({ cls := "AgentNetModel", name := "host", desc := "(II)I" } : Jvm.MethodName)) ∈ fm_T0 := fm_T0_6 52 rfl rfl
theorem q_1253 : (Jvm.Cond.selects "AgentNetModel" ({ cls := "AgentNetModel", name := "host", desc := "(II)I" } : Jvm.MethodName) ({ cls := "AgentNetModel", name := "host", desc := "(II)I" } : Jvm.MethodName)) ∈ fm_T0 := fm_T0_6 53 rfl rfl
theorem q_1254 : (Jvm.Cond.code ({ cls := "AgentNetModel", name := "host", desc := "(II)I" } : Jvm.MethodName) prog_13_method_56_code (3 : Nat) (Option.some Jvm.ClassFile.FieldType.int)) ∈ fm_T0 := fm_T0_6 54 rfl rfl
theorem q_1255 : (Jvm.Cond.methodLink "AgentNetLaw" (111 : Nat) ({ cls := "AgentNetModel", name := "sealed", desc := "(I)I" } : Jvm.MethodName)) ∈ fm_T0 := fm_T0_6 55 rfl rfl
theorem q_1256 : (Jvm.Cond.instanceMethod ({ cls := "AgentNetModel", name := "sealed", desc := "(I)I" } : Jvm.MethodName)) ∈ fm_T0 := fm_T0_6 56 rfl rfl
theorem q_1257 : (Jvm.Cond.selects "AgentNetModel" ({ cls := "AgentNetModel", name := "sealed", desc := "(I)I" } : Jvm.MethodName) ({ cls := "AgentNetModel", name := "sealed", desc := "(I)I" } : Jvm.MethodName)) ∈ fm_T0 := fm_T0_6 57 rfl rfl
theorem q_1258 : (Jvm.Cond.code ({ cls := "AgentNetModel", name := "sealed", desc := "(I)I" } : Jvm.MethodName) prog_13_method_57_code (8 : Nat) (Option.some Jvm.ClassFile.FieldType.int)) ∈ fm_T0 := fm_T0_6 58 rfl rfl
theorem q_1259 : (Jvm.Cond.methodLink "AgentNetLaw" (115 : Nat) ({ cls := "AgentNetModel", name := "outputs", desc := "(I)I" } : Jvm.MethodName)) ∈ fm_T0 := fm_T0_6 59 rfl rfl
theorem q_1260 : (Jvm.Cond.instanceMethod ({ cls := "AgentNetModel", name := "outputs", desc := "(I)I" } : Jvm.MethodName)) ∈ fm_T0 := fm_T0_6 60 rfl rfl
theorem q_1261 : (Jvm.Cond.selects "AgentNetModel" ({ cls := "AgentNetModel", name := "outputs", desc := "(I)I" } : Jvm.MethodName) ({ cls := "AgentNetModel", name := "outputs", desc := "(I)I" } : Jvm.MethodName)) ∈ fm_T0 := fm_T0_6 61 rfl rfl
theorem q_1262 : (Jvm.Cond.code ({ cls := "AgentNetModel", name := "outputs", desc := "(I)I" } : Jvm.MethodName) prog_13_method_58_code (2 : Nat) (Option.some Jvm.ClassFile.FieldType.int)) ∈ fm_T0 := fm_T0_6 62 rfl rfl
theorem q_1263 : (Jvm.Cond.methodLink "AgentNetLaw" (120 : Nat) ({ cls := "AgentNetModel", name := "output", desc := "(II)J" } : Jvm.MethodName)) ∈ fm_T0 := fm_T0_6 63 rfl rfl
theorem q_1264 : (Jvm.Cond.instanceMethod ({ cls := "AgentNetModel", name := "output", desc := "(II)J" } : Jvm.MethodName)) ∈ fm_T0 := fm_T0_6 64 rfl rfl
theorem q_1265 : (Jvm.Cond.selects "AgentNetModel" ({ cls := "AgentNetModel", name := "output", desc := "(II)J" } : Jvm.MethodName) ({ cls := "AgentNetModel", name := "output", desc := "(II)J" } : Jvm.MethodName)) ∈ fm_T0 := fm_T0_6 65 rfl rfl
theorem q_1266 : (Jvm.Cond.code ({ cls := "AgentNetModel", name := "output", desc := "(II)J" } : Jvm.MethodName) prog_13_method_59_code (3 : Nat) (Option.some Jvm.ClassFile.FieldType.long)) ∈ fm_T0 := fm_T0_6 66 rfl rfl
theorem q_1267 : (Jvm.Cond.methodLink "AgentNetLaw" (124 : Nat) ({ cls := "AgentNetModel", name := "expected", desc := "(I)I" } : Jvm.MethodName)) ∈ fm_T0 := fm_T0_6 67 rfl rfl
theorem q_1268 : (Jvm.Cond.instanceMethod ({ cls := "AgentNetModel", name := "expected", desc := "(I)I" } : Jvm.MethodName)) ∈ fm_T0 := fm_T0_6 68 rfl rfl
theorem q_1269 : (Jvm.Cond.selects "AgentNetModel" ({ cls := "AgentNetModel", name := "expected", desc := "(I)I" } : Jvm.MethodName) ({ cls := "AgentNetModel", name := "expected", desc := "(I)I" } : Jvm.MethodName)) ∈ fm_T0 := fm_T0_6 69 rfl rfl
theorem q_1270 : (Jvm.Cond.code ({ cls := "AgentNetModel", name := "expected", desc := "(I)I" } : Jvm.MethodName) prog_13_method_62_code (2 : Nat) (Option.some Jvm.ClassFile.FieldType.int)) ∈ fm_T0 := fm_T0_6 70 rfl rfl
theorem q_1271 : (Jvm.Cond.methodLink "AgentNetModel" (314 : Nat) ({ cls := "AgentNetModel", name := "runAlone", desc := "(I)Z" } : Jvm.MethodName)) ∈ fm_T0 := fm_T0_6 71 rfl rfl
theorem q_1273 : (Jvm.Cond.instanceMethod ({ cls := "AgentNetModel", name := "runAlone", desc := "(I)Z" } : Jvm.MethodName)) ∈ fm_T0 := fm_T0_6 73 rfl rfl
theorem q_1274 : (Jvm.Cond.code ({ cls := "AgentNetModel", name := "runAlone", desc := "(I)Z" } : Jvm.MethodName) prog_13_method_61_code (3 : Nat) (Option.some Jvm.ClassFile.FieldType.boolean)) ∈ fm_T0 := fm_T0_6 74 rfl rfl
theorem q_1275 : (Jvm.Cond.methodLink "AgentNetModel" (311 : Nat) ({ cls := "AgentNetModel", name := "runOn", desc := "(I)V" } : Jvm.MethodName)) ∈ fm_T0 := fm_T0_6 75 rfl rfl
theorem q_1277 : (Jvm.Cond.instanceMethod ({ cls := "AgentNetModel", name := "runOn", desc := "(I)V" } : Jvm.MethodName)) ∈ fm_T0 := fm_T0_6 77 rfl rfl
theorem q_1278 : (Jvm.Cond.code ({ cls := "AgentNetModel", name := "runOn", desc := "(I)V" } : Jvm.MethodName) prog_13_method_60_code (3 : Nat) (Option.none : Option Jvm.ClassFile.FieldType)) ∈ fm_T0 := fm_T0_6 78 rfl rfl
theorem q_1279 : (Jvm.Cond.methodLink "AgentNetLaw" (128 : Nat) ({ cls := "AgentNetModel", name := "expectedOutput", desc := "(II)J" } : Jvm.MethodName)) ∈ fm_T0 := fm_T0_6 79 rfl rfl
theorem q_1280 : (Jvm.Cond.instanceMethod ({ cls := "AgentNetModel", name := "expectedOutput", desc := "(II)J" } : Jvm.MethodName)) ∈ fm_T0 := fm_T0_6 80 rfl rfl
theorem q_1281 : (Jvm.Cond.selects "AgentNetModel" ({ cls := "AgentNetModel", name := "expectedOutput", desc := "(II)J" } : Jvm.MethodName) ({ cls := "AgentNetModel", name := "expectedOutput", desc := "(II)J" } : Jvm.MethodName)) ∈ fm_T0 := fm_T0_6 81 rfl rfl
theorem q_1282 : (Jvm.Cond.code ({ cls := "AgentNetModel", name := "expectedOutput", desc := "(II)J" } : Jvm.MethodName) prog_13_method_63_code (3 : Nat) (Option.some Jvm.ClassFile.FieldType.long)) ∈ fm_T0 := fm_T0_6 82 rfl rfl
theorem q_1283 : (Jvm.Cond.constantLong "AgentNetLaw" (47 : Nat) (4294967295 : Int64)) ∈ fm_T0 := fm_T0_6 83 rfl rfl
def F_An : u_T := fun k => match k with
  | 0 => ("AgentNet", "scripts", "[LAgentNet$Script;", true)
  | 1 => ("AgentNet", "tables", "[[I", true)
  | 2 => ("AgentNet", "sites", "[LAgentNet$Site;", true)
  | 3 => ("AgentNet", "wire", "LAgentNet$Wire;", true)
  | 4 => ("AgentNet", "processor", "LAgentNet$Processor;", true)
  | 5 => ("AgentNet", "released", "LAgentNet$Sayings;", true)
  | 6 => ("AgentNet", "freeRun", "LAgentNet$FreeRun;", true)
  | _ => ("AgentNet", "launched", "I", false)
def t_An : Nat → FieldType := fun k => match k with
  | 0 => .array (.object "AgentNet$Script")
  | 1 => .array (.array (.int))
  | 2 => .array (.object "AgentNet$Site")
  | 3 => .object "AgentNet$Wire"
  | 4 => .object "AgentNet$Processor"
  | 5 => .object "AgentNet$Sayings"
  | 6 => .object "AgentNet$FreeRun"
  | _ => .int
def F_Sc : u_T := fun k => match k with
  | 0 => ("AgentNet$Script", "bytes", "[I", true)
  | _ => ("AgentNet$Script", "length", "I", false)
def t_Sc : Nat → FieldType := fun k => match k with
  | 0 => .array (.int)
  | _ => .int
def F_Sy : u_T := fun k => match k with
  | 0 => ("AgentNet$Sayings", "here", "[I", true)
  | _ => ("AgentNet$Sayings", "values", "[I", true)
def t_Sy : Nat → FieldType := fun k => match k with
  | 0 => .array (.int)
  | _ => .array (.int)
def F_Nu : u_T := fun k => match k with
  | 0 => ("AgentNet$Numbering", "newNumbers", "[I", true)
  | 1 => ("AgentNet$Numbering", "oldNumbers", "[I", true)
  | 2 => ("AgentNet$Numbering", "firsts", "[J", true)
  | 3 => ("AgentNet$Numbering", "seconds", "[J", true)
  | _ => ("AgentNet$Numbering", "count", "I", false)
def t_Nu : Nat → FieldType := fun k => match k with
  | 0 => .array (.int)
  | 1 => .array (.int)
  | 2 => .array (.long)
  | 3 => .array (.long)
  | _ => .int
def F_Wi : u_T := fun k => match k with
  | 0 => ("AgentNet$Wire", "row", "[LAgentNet$Message;", true)
  | 1 => ("AgentNet$Wire", "count", "I", false)
  | _ => ("AgentNet$Wire", "spare", "LAgentNet$Message;", false)
def t_Wi : Nat → FieldType := fun k => match k with
  | 0 => .array (.object "AgentNet$Message")
  | 1 => .int
  | _ => .object "AgentNet$Message"
def F_Tr : u_T := fun k => match k with
  | 0 => ("AgentNet$Traveller", "number", "I", false)
  | 1 => ("AgentNet$Traveller", "script", "I", false)
  | 2 => ("AgentNet$Traveller", "place", "I", false)
  | 3 => ("AgentNet$Traveller", "fuel", "I", false)
  | 4 => ("AgentNet$Traveller", "hops", "I", false)
  | 5 => ("AgentNet$Traveller", "said", "I", false)
  | 6 => ("AgentNet$Traveller", "wait", "I", false)
  | 7 => ("AgentNet$Traveller", "cloned", "Z", false)
  | 8 => ("AgentNet$Traveller", "depth", "I", false)
  | 9 => ("AgentNet$Traveller", "pairs", "I", false)
  | 10 => ("AgentNet$Traveller", "stack", "[J", true)
  | 11 => ("AgentNet$Traveller", "firsts", "[J", true)
  | _ => ("AgentNet$Traveller", "seconds", "[J", true)
def t_Tr : Nat → FieldType := fun k => match k with
  | 0 => .int
  | 1 => .int
  | 2 => .int
  | 3 => .int
  | 4 => .int
  | 5 => .int
  | 6 => .int
  | 7 => .boolean
  | 8 => .int
  | 9 => .int
  | 10 => .array (.long)
  | 11 => .array (.long)
  | _ => .array (.long)
def F_Me : u_T := fun k => match k with
  | 0 => ("AgentNet$Memory", "slots", "[I", true)
  | 1 => ("AgentNet$Memory", "known", "[I", true)
  | 2 => ("AgentNet$Memory", "owed", "[I", true)
  | 3 => ("AgentNet$Memory", "notes", "[I", true)
  | 4 => ("AgentNet$Memory", "travellers", "[LAgentNet$Traveller;", true)
  | _ => ("AgentNet$Memory", "sayings", "LAgentNet$Sayings;", true)
def t_Me : Nat → FieldType := fun k => match k with
  | 0 => .array (.int)
  | 1 => .array (.int)
  | 2 => .array (.int)
  | 3 => .array (.int)
  | 4 => .array (.object "AgentNet$Traveller")
  | _ => .object "AgentNet$Sayings"
def F_Fr : u_T := fun k => match k with
  | 0 => ("AgentNet$FreeRun", "sayings", "LAgentNet$Sayings;", true)
  | 1 => ("AgentNet$FreeRun", "met", "[Z", true)
  | 2 => ("AgentNet$FreeRun", "self", "LAgentNet$Traveller;", true)
  | 3 => ("AgentNet$FreeRun", "child", "LAgentNet$Traveller;", true)
  | _ => ("AgentNet$FreeRun", "childHost", "I", false)
def t_Fr : Nat → FieldType := fun k => match k with
  | 0 => .object "AgentNet$Sayings"
  | 1 => .array (.boolean)
  | 2 => .object "AgentNet$Traveller"
  | 3 => .object "AgentNet$Traveller"
  | _ => .int
def F_Si : u_T := fun k => match k with
  | 0 => ("AgentNet$Site", "number", "I", true)
  | 1 => ("AgentNet$Site", "up", "Z", false)
  | 2 => ("AgentNet$Site", "sectorsLeft", "I", false)
  | 3 => ("AgentNet$Site", "memory", "LAgentNet$Memory;", false)
  | 4 => ("AgentNet$Site", "sealedCopy", "LAgentNet$Memory;", false)
  | _ => ("AgentNet$Site", "copy", "LAgentNet$Memory;", false)
def t_Si : Nat → FieldType := fun k => match k with
  | 0 => .int
  | 1 => .boolean
  | 2 => .int
  | 3 => .object "AgentNet$Memory"
  | 4 => .object "AgentNet$Memory"
  | _ => .object "AgentNet$Memory"
def F_Ms : u_T := fun k => match k with
  | 0 => ("AgentNet$Message", "isArrival", "Z", false)
  | 1 => ("AgentNet$Message", "number", "I", false)
  | 2 => ("AgentNet$Message", "hops", "I", false)
  | 3 => ("AgentNet$Message", "from", "I", false)
  | 4 => ("AgentNet$Message", "to", "I", false)
  | 5 => ("AgentNet$Message", "length", "I", false)
  | 6 => ("AgentNet$Message", "cursor", "I", false)
  | _ => ("AgentNet$Message", "image", "[B", true)
def t_Ms : Nat → FieldType := fun k => match k with
  | 0 => .boolean
  | 1 => .int
  | 2 => .int
  | 3 => .int
  | 4 => .int
  | 5 => .int
  | 6 => .int
  | _ => .array (.byte)
def F_Pr : u_T := fun k => match k with
  | 0 => ("AgentNet$Processor", "numbering", "LAgentNet$Numbering;", true)
  | 1 => ("AgentNet$Processor", "code", "I", false)
  | 2 => ("AgentNet$Processor", "x", "I", false)
  | 3 => ("AgentNet$Processor", "lower", "J", false)
  | 4 => ("AgentNet$Processor", "upper", "J", false)
  | _ => ("AgentNet$Processor", "asked", "I", false)
def t_Pr : Nat → FieldType := fun k => match k with
  | 0 => .object "AgentNet$Numbering"
  | 1 => .int
  | 2 => .int
  | 3 => .long
  | 4 => .long
  | _ => .int
def F_Mo : u_T := fun k => match k with
  | 0 => ("AgentNetModel", "thrown", "I", false)
  | 1 => ("AgentNetModel", "bytes", "[I", true)
  | 2 => ("AgentNetModel", "lengths", "[I", true)
  | 3 => ("AgentNetModel", "tables", "[I", true)
  | 4 => ("AgentNetModel", "launched", "I", false)
  | 5 => ("AgentNetModel", "home", "[I", true)
  | 6 => ("AgentNetModel", "rule", "[I", true)
  | 7 => ("AgentNetModel", "purse", "[I", true)
  | 8 => ("AgentNetModel", "count", "[I", true)
  | 9 => ("AgentNetModel", "freed", "[I", true)
  | 10 => ("AgentNetModel", "up", "[Z", true)
  | 11 => ("AgentNetModel", "left", "[I", true)
  | 12 => ("AgentNetModel", "slot", "[I", true)
  | 13 => ("AgentNetModel", "goal", "[I", true)
  | 14 => ("AgentNetModel", "known", "[I", true)
  | 15 => ("AgentNetModel", "owed", "[I", true)
  | 16 => ("AgentNetModel", "note", "[I", true)
  | 17 => ("AgentNetModel", "told", "[I", true)
  | 18 => ("AgentNetModel", "words", "[I", true)
  | 19 => ("AgentNetModel", "turn", "[Z", true)
  | 20 => ("AgentNetModel", "program", "[I", true)
  | 21 => ("AgentNetModel", "place", "[I", true)
  | 22 => ("AgentNetModel", "fuel", "[I", true)
  | 23 => ("AgentNetModel", "hops", "[I", true)
  | 24 => ("AgentNetModel", "said", "[I", true)
  | 25 => ("AgentNetModel", "wait", "[I", true)
  | 26 => ("AgentNetModel", "cloned", "[Z", true)
  | 27 => ("AgentNetModel", "size", "[I", true)
  | 28 => ("AgentNetModel", "stack", "[J", true)
  | 29 => ("AgentNetModel", "pairs", "[I", true)
  | 30 => ("AgentNetModel", "first", "[J", true)
  | 31 => ("AgentNetModel", "second", "[J", true)
  | 32 => ("AgentNetModel", "reached", "I", false)
  | 33 => ("AgentNetModel", "order", "[I", true)
  | 34 => ("AgentNetModel", "rank", "[I", true)
  | 35 => ("AgentNetModel", "heads", "[J", true)
  | 36 => ("AgentNetModel", "tails", "[J", true)
  | 37 => ("AgentNetModel", "under", "I", false)
  | 38 => ("AgentNetModel", "receipt", "[Z", true)
  | 39 => ("AgentNetModel", "who", "[I", true)
  | 40 => ("AgentNetModel", "far", "[I", true)
  | 41 => ("AgentNetModel", "from", "[I", true)
  | 42 => ("AgentNetModel", "to", "[I", true)
  | 43 => ("AgentNetModel", "long1", "[I", true)
  | 44 => ("AgentNetModel", "image", "[I", true)
  | 45 => ("AgentNetModel", "at", "I", false)
  | 46 => ("AgentNetModel", "freeHost", "I", false)
  | 47 => ("AgentNetModel", "born", "Z", false)
  | 48 => ("AgentNetModel", "freeCount", "I", false)
  | 49 => ("AgentNetModel", "freeWords", "[I", true)
  | _ => ("AgentNetModel", "ended", "Z", false)
def t_Mo : Nat → FieldType := fun k => match k with
  | 0 => .int
  | 1 => .array (.int)
  | 2 => .array (.int)
  | 3 => .array (.int)
  | 4 => .int
  | 5 => .array (.int)
  | 6 => .array (.int)
  | 7 => .array (.int)
  | 8 => .array (.int)
  | 9 => .array (.int)
  | 10 => .array (.boolean)
  | 11 => .array (.int)
  | 12 => .array (.int)
  | 13 => .array (.int)
  | 14 => .array (.int)
  | 15 => .array (.int)
  | 16 => .array (.int)
  | 17 => .array (.int)
  | 18 => .array (.int)
  | 19 => .array (.boolean)
  | 20 => .array (.int)
  | 21 => .array (.int)
  | 22 => .array (.int)
  | 23 => .array (.int)
  | 24 => .array (.int)
  | 25 => .array (.int)
  | 26 => .array (.boolean)
  | 27 => .array (.int)
  | 28 => .array (.long)
  | 29 => .array (.int)
  | 30 => .array (.long)
  | 31 => .array (.long)
  | 32 => .int
  | 33 => .array (.int)
  | 34 => .array (.int)
  | 35 => .array (.long)
  | 36 => .array (.long)
  | 37 => .int
  | 38 => .array (.boolean)
  | 39 => .array (.int)
  | 40 => .array (.int)
  | 41 => .array (.int)
  | 42 => .array (.int)
  | 43 => .array (.int)
  | 44 => .array (.int)
  | 45 => .int
  | 46 => .int
  | 47 => .boolean
  | 48 => .int
  | 49 => .array (.int)
  | _ => .boolean
abbrev fm_cl : List vw_C := [("AgentNet", F_An, 8), ("AgentNet$Script", F_Sc, 2), ("AgentNet$Sayings", F_Sy, 2), ("AgentNet$Numbering", F_Nu, 5), ("AgentNet$Wire", F_Wi, 3), ("AgentNet$Traveller", F_Tr, 13), ("AgentNet$Memory", F_Me, 6), ("AgentNet$FreeRun", F_Fr, 5), ("AgentNet$Site", F_Si, 6), ("AgentNet$Message", F_Ms, 8), ("AgentNet$Processor", F_Pr, 6), ("AgentNetModel", F_Mo, 51)]
def fm_nf : Nat → Nat := fun k => match k with
  | 0 => 8
  | 1 => 2
  | 2 => 2
  | 3 => 5
  | 4 => 3
  | 5 => 13
  | 6 => 6
  | 7 => 5
  | 8 => 6
  | 9 => 8
  | 10 => 6
  | 11 => 51
  | _ => 0
def fm_fk : Nat → Nat → Nat := fun ci k => match ci with
  | 0 => ([2, 2, 2, 2, 2, 2, 2, 0] : List Nat).getD k 0
  | 1 => ([2, 0] : List Nat).getD k 0
  | 2 => ([2, 2] : List Nat).getD k 0
  | 3 => ([2, 2, 2, 2, 0] : List Nat).getD k 0
  | 4 => ([2, 0, 2] : List Nat).getD k 0
  | 5 => ([0, 0, 0, 0, 0, 0, 0, 0, 0, 0, 2, 2, 2] : List Nat).getD k 0
  | 6 => ([2, 2, 2, 2, 2, 2] : List Nat).getD k 0
  | 7 => ([2, 2, 2, 2, 0] : List Nat).getD k 0
  | 8 => ([0, 0, 0, 2, 2, 2] : List Nat).getD k 0
  | 9 => ([0, 0, 0, 0, 0, 0, 0, 2] : List Nat).getD k 0
  | 10 => ([2, 0, 0, 1, 1, 0] : List Nat).getD k 0
  | 11 => ([0, 2, 2, 2, 0, 2, 2, 2, 2, 2, 2, 2, 2, 2, 2, 2, 2, 2, 2, 2, 2, 2, 2, 2, 2, 2, 2, 2, 2, 2, 2, 2, 0, 2, 2, 2, 2, 0, 2, 2, 2, 2, 2, 2, 2, 0, 0, 0, 0, 2, 0] : List Nat).getD k 0
  | _ => 0
theorem ul_An : ∀ w ∈ u_ws "AgentNet" F_An 8, w ∈ fm_T0 := List.forall_mem_cons.mpr ⟨q_363, List.forall_mem_cons.mpr ⟨q_365, List.forall_mem_cons.mpr ⟨q_367, List.forall_mem_cons.mpr ⟨q_369, List.forall_mem_cons.mpr ⟨q_371, List.forall_mem_cons.mpr ⟨q_373, List.forall_mem_cons.mpr ⟨q_375, List.forall_mem_cons.mpr ⟨q_377, fun _ h => absurd h List.not_mem_nil⟩⟩⟩⟩⟩⟩⟩⟩
theorem ty_An : ∀ k, k < 8 → parseFieldDescriptor (F_An k).2.2.1 = some (t_An k) := by decide +kernel
theorem nm_An : ∀ a, a < 8 → ∀ b, b < 8 → a ≠ b → (F_An a).2.1 ≠ (F_An b).2.1 := by decide +kernel
theorem K_An : fm_Kc fm_T0 fm_cl fm_nf 0 "AgentNet" F_An 8 t_An := ⟨rfl, rfl, ul_An, ty_An, nm_An⟩
theorem ul_Sc : ∀ w ∈ u_ws "AgentNet$Script" F_Sc 2, w ∈ fm_T0 := List.forall_mem_cons.mpr ⟨q_281, List.forall_mem_cons.mpr ⟨q_283, fun _ h => absurd h List.not_mem_nil⟩⟩
theorem ty_Sc : ∀ k, k < 2 → parseFieldDescriptor (F_Sc k).2.2.1 = some (t_Sc k) := by decide +kernel
theorem nm_Sc : ∀ a, a < 2 → ∀ b, b < 2 → a ≠ b → (F_Sc a).2.1 ≠ (F_Sc b).2.1 := by decide +kernel
theorem K_Sc : fm_Kc fm_T0 fm_cl fm_nf 1 "AgentNet$Script" F_Sc 2 t_Sc := ⟨rfl, rfl, ul_Sc, ty_Sc, nm_Sc⟩
theorem ul_Sy : ∀ w ∈ u_ws "AgentNet$Sayings" F_Sy 2, w ∈ fm_T0 := List.forall_mem_cons.mpr ⟨q_152, List.forall_mem_cons.mpr ⟨q_154, fun _ h => absurd h List.not_mem_nil⟩⟩
theorem ty_Sy : ∀ k, k < 2 → parseFieldDescriptor (F_Sy k).2.2.1 = some (t_Sy k) := by decide +kernel
theorem nm_Sy : ∀ a, a < 2 → ∀ b, b < 2 → a ≠ b → (F_Sy a).2.1 ≠ (F_Sy b).2.1 := by decide +kernel
theorem K_Sy : fm_Kc fm_T0 fm_cl fm_nf 2 "AgentNet$Sayings" F_Sy 2 t_Sy := ⟨rfl, rfl, ul_Sy, ty_Sy, nm_Sy⟩
theorem ul_Nu : ∀ w ∈ u_ws "AgentNet$Numbering" F_Nu 5, w ∈ fm_T0 := List.forall_mem_cons.mpr ⟨q_111, List.forall_mem_cons.mpr ⟨q_113, List.forall_mem_cons.mpr ⟨q_115, List.forall_mem_cons.mpr ⟨q_117, List.forall_mem_cons.mpr ⟨q_119, fun _ h => absurd h List.not_mem_nil⟩⟩⟩⟩⟩
theorem ty_Nu : ∀ k, k < 5 → parseFieldDescriptor (F_Nu k).2.2.1 = some (t_Nu k) := by decide +kernel
theorem nm_Nu : ∀ a, a < 5 → ∀ b, b < 5 → a ≠ b → (F_Nu a).2.1 ≠ (F_Nu b).2.1 := by decide +kernel
theorem K_Nu : fm_Kc fm_T0 fm_cl fm_nf 3 "AgentNet$Numbering" F_Nu 5 t_Nu := ⟨rfl, rfl, ul_Nu, ty_Nu, nm_Nu⟩
theorem ul_Wi : ∀ w ∈ u_ws "AgentNet$Wire" F_Wi 3, w ∈ fm_T0 := List.forall_mem_cons.mpr ⟨q_87, List.forall_mem_cons.mpr ⟨q_89, List.forall_mem_cons.mpr ⟨q_91, fun _ h => absurd h List.not_mem_nil⟩⟩⟩
theorem ty_Wi : ∀ k, k < 3 → parseFieldDescriptor (F_Wi k).2.2.1 = some (t_Wi k) := by decide +kernel
theorem nm_Wi : ∀ a, a < 3 → ∀ b, b < 3 → a ≠ b → (F_Wi a).2.1 ≠ (F_Wi b).2.1 := by decide +kernel
theorem K_Wi : fm_Kc fm_T0 fm_cl fm_nf 4 "AgentNet$Wire" F_Wi 3 t_Wi := ⟨rfl, rfl, ul_Wi, ty_Wi, nm_Wi⟩
theorem ul_Tr : ∀ w ∈ u_ws "AgentNet$Traveller" F_Tr 13, w ∈ fm_T0 := List.forall_mem_cons.mpr ⟨q_228, List.forall_mem_cons.mpr ⟨q_230, List.forall_mem_cons.mpr ⟨q_232, List.forall_mem_cons.mpr ⟨q_234, List.forall_mem_cons.mpr ⟨q_236, List.forall_mem_cons.mpr ⟨q_238, List.forall_mem_cons.mpr ⟨q_240, List.forall_mem_cons.mpr ⟨q_242, List.forall_mem_cons.mpr ⟨q_244, List.forall_mem_cons.mpr ⟨q_246, List.forall_mem_cons.mpr ⟨q_248, List.forall_mem_cons.mpr ⟨q_250, List.forall_mem_cons.mpr ⟨q_252, fun _ h => absurd h List.not_mem_nil⟩⟩⟩⟩⟩⟩⟩⟩⟩⟩⟩⟩⟩
theorem ty_Tr : ∀ k, k < 13 → parseFieldDescriptor (F_Tr k).2.2.1 = some (t_Tr k) := by decide +kernel
theorem nm_Tr : ∀ a, a < 13 → ∀ b, b < 13 → a ≠ b → (F_Tr a).2.1 ≠ (F_Tr b).2.1 := by decide +kernel
theorem K_Tr : fm_Kc fm_T0 fm_cl fm_nf 5 "AgentNet$Traveller" F_Tr 13 t_Tr := ⟨rfl, rfl, ul_Tr, ty_Tr, nm_Tr⟩
theorem ul_Me : ∀ w ∈ u_ws "AgentNet$Memory" F_Me 6, w ∈ fm_T0 := List.forall_mem_cons.mpr ⟨q_319, List.forall_mem_cons.mpr ⟨q_321, List.forall_mem_cons.mpr ⟨q_323, List.forall_mem_cons.mpr ⟨q_325, List.forall_mem_cons.mpr ⟨q_327, List.forall_mem_cons.mpr ⟨q_329, fun _ h => absurd h List.not_mem_nil⟩⟩⟩⟩⟩⟩
theorem ty_Me : ∀ k, k < 6 → parseFieldDescriptor (F_Me k).2.2.1 = some (t_Me k) := by decide +kernel
theorem nm_Me : ∀ a, a < 6 → ∀ b, b < 6 → a ≠ b → (F_Me a).2.1 ≠ (F_Me b).2.1 := by decide +kernel
theorem K_Me : fm_Kc fm_T0 fm_cl fm_nf 6 "AgentNet$Memory" F_Me 6 t_Me := ⟨rfl, rfl, ul_Me, ty_Me, nm_Me⟩
theorem ul_Fr : ∀ w ∈ u_ws "AgentNet$FreeRun" F_Fr 5, w ∈ fm_T0 := List.forall_mem_cons.mpr ⟨q_263, List.forall_mem_cons.mpr ⟨q_265, List.forall_mem_cons.mpr ⟨q_267, List.forall_mem_cons.mpr ⟨q_269, List.forall_mem_cons.mpr ⟨q_271, fun _ h => absurd h List.not_mem_nil⟩⟩⟩⟩⟩
theorem ty_Fr : ∀ k, k < 5 → parseFieldDescriptor (F_Fr k).2.2.1 = some (t_Fr k) := by decide +kernel
theorem nm_Fr : ∀ a, a < 5 → ∀ b, b < 5 → a ≠ b → (F_Fr a).2.1 ≠ (F_Fr b).2.1 := by decide +kernel
theorem K_Fr : fm_Kc fm_T0 fm_cl fm_nf 7 "AgentNet$FreeRun" F_Fr 5 t_Fr := ⟨rfl, rfl, ul_Fr, ty_Fr, nm_Fr⟩
theorem ul_Si : ∀ w ∈ u_ws "AgentNet$Site" F_Si 6, w ∈ fm_T0 := List.forall_mem_cons.mpr ⟨q_342, List.forall_mem_cons.mpr ⟨q_344, List.forall_mem_cons.mpr ⟨q_346, List.forall_mem_cons.mpr ⟨q_348, List.forall_mem_cons.mpr ⟨q_350, List.forall_mem_cons.mpr ⟨q_352, fun _ h => absurd h List.not_mem_nil⟩⟩⟩⟩⟩⟩
theorem ty_Si : ∀ k, k < 6 → parseFieldDescriptor (F_Si k).2.2.1 = some (t_Si k) := by decide +kernel
theorem nm_Si : ∀ a, a < 6 → ∀ b, b < 6 → a ≠ b → (F_Si a).2.1 ≠ (F_Si b).2.1 := by decide +kernel
theorem K_Si : fm_Kc fm_T0 fm_cl fm_nf 8 "AgentNet$Site" F_Si 6 t_Si := ⟨rfl, rfl, ul_Si, ty_Si, nm_Si⟩
theorem ul_Ms : ∀ w ∈ u_ws "AgentNet$Message" F_Ms 8, w ∈ fm_T0 := List.forall_mem_cons.mpr ⟨q_63, List.forall_mem_cons.mpr ⟨q_65, List.forall_mem_cons.mpr ⟨q_67, List.forall_mem_cons.mpr ⟨q_69, List.forall_mem_cons.mpr ⟨q_71, List.forall_mem_cons.mpr ⟨q_73, List.forall_mem_cons.mpr ⟨q_75, List.forall_mem_cons.mpr ⟨q_77, fun _ h => absurd h List.not_mem_nil⟩⟩⟩⟩⟩⟩⟩⟩
theorem ty_Ms : ∀ k, k < 8 → parseFieldDescriptor (F_Ms k).2.2.1 = some (t_Ms k) := by decide +kernel
theorem nm_Ms : ∀ a, a < 8 → ∀ b, b < 8 → a ≠ b → (F_Ms a).2.1 ≠ (F_Ms b).2.1 := by decide +kernel
theorem K_Ms : fm_Kc fm_T0 fm_cl fm_nf 9 "AgentNet$Message" F_Ms 8 t_Ms := ⟨rfl, rfl, ul_Ms, ty_Ms, nm_Ms⟩
theorem ul_Pr : ∀ w ∈ u_ws "AgentNet$Processor" F_Pr 6, w ∈ fm_T0 := List.forall_mem_cons.mpr ⟨q_131, List.forall_mem_cons.mpr ⟨q_133, List.forall_mem_cons.mpr ⟨q_135, List.forall_mem_cons.mpr ⟨q_137, List.forall_mem_cons.mpr ⟨q_139, List.forall_mem_cons.mpr ⟨q_141, fun _ h => absurd h List.not_mem_nil⟩⟩⟩⟩⟩⟩
theorem ty_Pr : ∀ k, k < 6 → parseFieldDescriptor (F_Pr k).2.2.1 = some (t_Pr k) := by decide +kernel
theorem nm_Pr : ∀ a, a < 6 → ∀ b, b < 6 → a ≠ b → (F_Pr a).2.1 ≠ (F_Pr b).2.1 := by decide +kernel
theorem K_Pr : fm_Kc fm_T0 fm_cl fm_nf 10 "AgentNet$Processor" F_Pr 6 t_Pr := ⟨rfl, rfl, ul_Pr, ty_Pr, nm_Pr⟩
theorem ul_Mo : ∀ w ∈ u_ws "AgentNetModel" F_Mo 51, w ∈ fm_T0 := List.forall_mem_cons.mpr ⟨q_936, List.forall_mem_cons.mpr ⟨q_938, List.forall_mem_cons.mpr ⟨q_940, List.forall_mem_cons.mpr ⟨q_942, List.forall_mem_cons.mpr ⟨q_944, List.forall_mem_cons.mpr ⟨q_946, List.forall_mem_cons.mpr ⟨q_948, List.forall_mem_cons.mpr ⟨q_950, List.forall_mem_cons.mpr ⟨q_952, List.forall_mem_cons.mpr ⟨q_954, List.forall_mem_cons.mpr ⟨q_956, List.forall_mem_cons.mpr ⟨q_958, List.forall_mem_cons.mpr ⟨q_960, List.forall_mem_cons.mpr ⟨q_962, List.forall_mem_cons.mpr ⟨q_964, List.forall_mem_cons.mpr ⟨q_966, List.forall_mem_cons.mpr ⟨q_968, List.forall_mem_cons.mpr ⟨q_970, List.forall_mem_cons.mpr ⟨q_972, List.forall_mem_cons.mpr ⟨q_974, List.forall_mem_cons.mpr ⟨q_976, List.forall_mem_cons.mpr ⟨q_978, List.forall_mem_cons.mpr ⟨q_980, List.forall_mem_cons.mpr ⟨q_982, List.forall_mem_cons.mpr ⟨q_984, List.forall_mem_cons.mpr ⟨q_986, List.forall_mem_cons.mpr ⟨q_988, List.forall_mem_cons.mpr ⟨q_990, List.forall_mem_cons.mpr ⟨q_992, List.forall_mem_cons.mpr ⟨q_994, List.forall_mem_cons.mpr ⟨q_996, List.forall_mem_cons.mpr ⟨q_998, List.forall_mem_cons.mpr ⟨q_1000, List.forall_mem_cons.mpr ⟨q_1002, List.forall_mem_cons.mpr ⟨q_1004, List.forall_mem_cons.mpr ⟨q_1006, List.forall_mem_cons.mpr ⟨q_1008, List.forall_mem_cons.mpr ⟨q_1010, List.forall_mem_cons.mpr ⟨q_1012, List.forall_mem_cons.mpr ⟨q_1014, List.forall_mem_cons.mpr ⟨q_1016, List.forall_mem_cons.mpr ⟨q_1018, List.forall_mem_cons.mpr ⟨q_1020, List.forall_mem_cons.mpr ⟨q_1022, List.forall_mem_cons.mpr ⟨q_1024, List.forall_mem_cons.mpr ⟨q_1026, List.forall_mem_cons.mpr ⟨q_1028, List.forall_mem_cons.mpr ⟨q_1030, List.forall_mem_cons.mpr ⟨q_1032, List.forall_mem_cons.mpr ⟨q_1034, List.forall_mem_cons.mpr ⟨q_1036, fun _ h => absurd h List.not_mem_nil⟩⟩⟩⟩⟩⟩⟩⟩⟩⟩⟩⟩⟩⟩⟩⟩⟩⟩⟩⟩⟩⟩⟩⟩⟩⟩⟩⟩⟩⟩⟩⟩⟩⟩⟩⟩⟩⟩⟩⟩⟩⟩⟩⟩⟩⟩⟩⟩⟩⟩⟩
theorem ty_Mo : ∀ k, k < 51 → parseFieldDescriptor (F_Mo k).2.2.1 = some (t_Mo k) := by decide +kernel
theorem nm_Mo : ∀ a, a < 51 → ∀ b, b < 51 → a ≠ b → (F_Mo a).2.1 ≠ (F_Mo b).2.1 := by decide +kernel
theorem K_Mo : fm_Kc fm_T0 fm_cl fm_nf 11 "AgentNetModel" F_Mo 51 t_Mo := ⟨rfl, rfl, ul_Mo, ty_Mo, nm_Mo⟩
abbrev y_An_init : MethodName := ⟨"AgentNet", "<init>", "()V"⟩
abbrev b_An_init : ByteArray := prog_1_method_1_code
abbrev y_An_program : MethodName := ⟨"AgentNet", "program", "(IJI)I"⟩
abbrev b_An_program : ByteArray := prog_1_method_2_code
abbrev y_An_table : MethodName := ⟨"AgentNet", "table", "(III)Z"⟩
abbrev b_An_table : ByteArray := prog_1_method_3_code
abbrev y_An_launch : MethodName := ⟨"AgentNet", "launch", "(III)I"⟩
abbrev b_An_launch : ByteArray := prog_1_method_4_code
abbrev y_An_step : MethodName := ⟨"AgentNet", "step", "(II)I"⟩
abbrev b_An_step : ByteArray := prog_1_method_5_code
abbrev y_An_tick : MethodName := ⟨"AgentNet", "tick", "(I)I"⟩
abbrev b_An_tick : ByteArray := prog_1_method_6_code
abbrev y_An_checkpoint : MethodName := ⟨"AgentNet", "checkpoint", "(I)I"⟩
abbrev b_An_checkpoint : ByteArray := prog_1_method_7_code
abbrev y_An_write : MethodName := ⟨"AgentNet", "write", "(II)I"⟩
abbrev b_An_write : ByteArray := prog_1_method_8_code
abbrev y_An_crash : MethodName := ⟨"AgentNet", "crash", "(I)Z"⟩
abbrev b_An_crash : ByteArray := prog_1_method_9_code
abbrev y_An_start : MethodName := ⟨"AgentNet", "start", "(I)Z"⟩
abbrev b_An_start : ByteArray := prog_1_method_10_code
abbrev y_An_net : MethodName := ⟨"AgentNet", "net", "(II)I"⟩
abbrev b_An_net : ByteArray := prog_1_method_11_code
abbrev y_An_message : MethodName := ⟨"AgentNet", "message", "(II)I"⟩
abbrev b_An_message : ByteArray := prog_1_method_12_code
abbrev y_An_slot : MethodName := ⟨"AgentNet", "slot", "(II)I"⟩
abbrev b_An_slot : ByteArray := prog_1_method_13_code
abbrev y_An_agent : MethodName := ⟨"AgentNet", "agent", "(III)I"⟩
abbrev b_An_agent : ByteArray := prog_1_method_14_code
abbrev y_An_host : MethodName := ⟨"AgentNet", "host", "(II)I"⟩
abbrev b_An_host : ByteArray := prog_1_method_15_code
abbrev y_An_sealed : MethodName := ⟨"AgentNet", "sealed", "(I)I"⟩
abbrev b_An_sealed : ByteArray := prog_1_method_16_code
abbrev y_An_outputs : MethodName := ⟨"AgentNet", "outputs", "(I)I"⟩
abbrev b_An_outputs : ByteArray := prog_1_method_17_code
abbrev y_An_output : MethodName := ⟨"AgentNet", "output", "(II)J"⟩
abbrev b_An_output : ByteArray := prog_1_method_18_code
abbrev y_An_expected : MethodName := ⟨"AgentNet", "expected", "(I)I"⟩
abbrev b_An_expected : ByteArray := prog_1_method_19_code
abbrev y_An_expectedOutput : MethodName := ⟨"AgentNet", "expectedOutput", "(II)J"⟩
abbrev b_An_expectedOutput : ByteArray := prog_1_method_20_code
abbrev y_An_round : MethodName := ⟨"AgentNet", "round", "(I)I"⟩
abbrev b_An_round : ByteArray := prog_1_method_21_code
abbrev y_An_isHost : MethodName := ⟨"AgentNet", "isHost", "(I)Z"⟩
abbrev b_An_isHost : ByteArray := prog_1_method_22_code
abbrev y_An_isProgram : MethodName := ⟨"AgentNet", "isProgram", "(I)Z"⟩
abbrev b_An_isProgram : ByteArray := prog_1_method_23_code
abbrev y_An_isAgent : MethodName := ⟨"AgentNet", "isAgent", "(I)Z"⟩
abbrev b_An_isAgent : ByteArray := prog_1_method_24_code
abbrev y_An_isPair : MethodName := ⟨"AgentNet", "isPair", "(J)Z"⟩
abbrev b_An_isPair : ByteArray := prog_1_method_25_code
abbrev y_Mo_init : MethodName := ⟨"AgentNetModel", "<init>", "()V"⟩
abbrev b_Mo_init : ByteArray := prog_13_method_1_code
abbrev y_Mo_thrown : MethodName := ⟨"AgentNetModel", "thrown", "()I"⟩
abbrev b_Mo_thrown : ByteArray := prog_13_method_2_code
abbrev y_Mo_refuse : MethodName := ⟨"AgentNetModel", "refuse", "(I)I"⟩
abbrev b_Mo_refuse : ByteArray := prog_13_method_3_code
abbrev y_Mo_within : MethodName := ⟨"AgentNetModel", "within", "(III)Z"⟩
abbrev b_Mo_within : ByteArray := prog_13_method_4_code
abbrev y_Mo_forget : MethodName := ⟨"AgentNetModel", "forget", "(I)V"⟩
abbrev b_Mo_forget : ByteArray := prog_13_method_5_code
abbrev y_Mo_moveAgent : MethodName := ⟨"AgentNetModel", "moveAgent", "(II)V"⟩
abbrev b_Mo_moveAgent : ByteArray := prog_13_method_6_code
abbrev y_Mo_moveMemory : MethodName := ⟨"AgentNetModel", "moveMemory", "(II)V"⟩
abbrev b_Mo_moveMemory : ByteArray := prog_13_method_7_code
abbrev y_Mo_arriveAt : MethodName := ⟨"AgentNetModel", "arriveAt", "(III)V"⟩
abbrev b_Mo_arriveAt : ByteArray := prog_13_method_8_code
abbrev y_Mo_pairOf : MethodName := ⟨"AgentNetModel", "pairOf", "(J)I"⟩
abbrev b_Mo_pairOf : ByteArray := prog_13_method_9_code
abbrev y_Mo_push : MethodName := ⟨"AgentNetModel", "push", "(IJ)V"⟩
abbrev b_Mo_push : ByteArray := prog_13_method_10_code
abbrev y_Mo_pop : MethodName := ⟨"AgentNetModel", "pop", "(I)J"⟩
abbrev b_Mo_pop : ByteArray := prog_13_method_11_code
abbrev y_Mo_top : MethodName := ⟨"AgentNetModel", "top", "(II)J"⟩
abbrev b_Mo_top : ByteArray := prog_13_method_12_code
abbrev y_Mo_meet : MethodName := ⟨"AgentNetModel", "meet", "(J)V"⟩
abbrev b_Mo_meet : ByteArray := prog_13_method_13_code
abbrev y_Mo_reach : MethodName := ⟨"AgentNetModel", "reach", "(I)I"⟩
abbrev b_Mo_reach : ByteArray := prog_13_method_14_code
abbrev y_Mo_renamed : MethodName := ⟨"AgentNetModel", "renamed", "(J)J"⟩
abbrev b_Mo_renamed : ByteArray := prog_13_method_15_code
abbrev y_Mo_tidy : MethodName := ⟨"AgentNetModel", "tidy", "(I)V"⟩
abbrev b_Mo_tidy : ByteArray := prog_13_method_16_code
abbrev y_Mo_program : MethodName := ⟨"AgentNetModel", "program", "(IJI)I"⟩
abbrev b_Mo_program : ByteArray := prog_13_method_17_code
abbrev y_Mo_table : MethodName := ⟨"AgentNetModel", "table", "(III)Z"⟩
abbrev b_Mo_table : ByteArray := prog_13_method_18_code
abbrev y_Mo_fresh : MethodName := ⟨"AgentNetModel", "fresh", "(II)V"⟩
abbrev b_Mo_fresh : ByteArray := prog_13_method_19_code
abbrev y_Mo_launch : MethodName := ⟨"AgentNetModel", "launch", "(III)I"⟩
abbrev b_Mo_launch : ByteArray := prog_13_method_20_code
abbrev y_Mo_isWide : MethodName := ⟨"AgentNetModel", "isWide", "(I)Z"⟩
abbrev b_Mo_isWide : ByteArray := prog_13_method_21_code
abbrev y_Mo_isInt : MethodName := ⟨"AgentNetModel", "isInt", "(II)Z"⟩
abbrev b_Mo_isInt : ByteArray := prog_13_method_22_code
abbrev y_Mo_isUpTo : MethodName := ⟨"AgentNetModel", "isUpTo", "(II)Z"⟩
abbrev b_Mo_isUpTo : ByteArray := prog_13_method_23_code
abbrev y_Mo_isFit : MethodName := ⟨"AgentNetModel", "isFit", "(III)Z"⟩
abbrev b_Mo_isFit : ByteArray := prog_13_method_24_code
abbrev y_Mo_bear : MethodName := ⟨"AgentNetModel", "bear", "(III)V"⟩
abbrev b_Mo_bear : ByteArray := prog_13_method_25_code
abbrev y_Mo_speak : MethodName := ⟨"AgentNetModel", "speak", "(III)V"⟩
abbrev b_Mo_speak : ByteArray := prog_13_method_26_code
abbrev y_Mo_travel : MethodName := ⟨"AgentNetModel", "travel", "(III)V"⟩
abbrev b_Mo_travel : ByteArray := prog_13_method_27_code
abbrev y_Mo_cloning : MethodName := ⟨"AgentNetModel", "cloning", "(III)V"⟩
abbrev b_Mo_cloning : ByteArray := prog_13_method_28_code
abbrev y_Mo_newPair : MethodName := ⟨"AgentNetModel", "newPair", "(I)V"⟩
abbrev b_Mo_newPair : ByteArray := prog_13_method_29_code
abbrev y_Mo_compute : MethodName := ⟨"AgentNetModel", "compute", "(II)V"⟩
abbrev b_Mo_compute : ByteArray := prog_13_method_30_code
abbrev y_Mo_compare : MethodName := ⟨"AgentNetModel", "compare", "(I)V"⟩
abbrev b_Mo_compare : ByteArray := prog_13_method_31_code
abbrev y_Mo_put : MethodName := ⟨"AgentNetModel", "put", "(II)V"⟩
abbrev b_Mo_put : ByteArray := prog_13_method_32_code
abbrev y_Mo_perform : MethodName := ⟨"AgentNetModel", "perform", "(IIII)V"⟩
abbrev b_Mo_perform : ByteArray := prog_13_method_33_code
abbrev y_Mo_work : MethodName := ⟨"AgentNetModel", "work", "(II)Z"⟩
abbrev b_Mo_work : ByteArray := prog_13_method_34_code
abbrev y_Mo_wrongAt : MethodName := ⟨"AgentNetModel", "wrongAt", "(IZ)I"⟩
abbrev b_Mo_wrongAt : ByteArray := prog_13_method_35_code
abbrev y_Mo_step : MethodName := ⟨"AgentNetModel", "step", "(II)I"⟩
abbrev b_Mo_step : ByteArray := prog_13_method_36_code
abbrev y_Mo_post : MethodName := ⟨"AgentNetModel", "post", "(ZIIII)I"⟩
abbrev b_Mo_post : ByteArray := prog_13_method_37_code
abbrev y_Mo_say : MethodName := ⟨"AgentNetModel", "say", "(I)V"⟩
abbrev b_Mo_say : ByteArray := prog_13_method_38_code
abbrev y_Mo_sayValue : MethodName := ⟨"AgentNetModel", "sayValue", "(J)V"⟩
abbrev b_Mo_sayValue : ByteArray := prog_13_method_39_code
abbrev y_Mo_pack : MethodName := ⟨"AgentNetModel", "pack", "(II)V"⟩
abbrev b_Mo_pack : ByteArray := prog_13_method_40_code
abbrev y_Mo_tick : MethodName := ⟨"AgentNetModel", "tick", "(I)I"⟩
abbrev b_Mo_tick : ByteArray := prog_13_method_41_code
abbrev y_Mo_checkpoint : MethodName := ⟨"AgentNetModel", "checkpoint", "(I)I"⟩
abbrev b_Mo_checkpoint : ByteArray := prog_13_method_42_code
abbrev y_Mo_seal : MethodName := ⟨"AgentNetModel", "seal", "(I)V"⟩
abbrev b_Mo_seal : ByteArray := prog_13_method_43_code
abbrev y_Mo_write : MethodName := ⟨"AgentNetModel", "write", "(II)I"⟩
abbrev b_Mo_write : ByteArray := prog_13_method_44_code
abbrev y_Mo_crash : MethodName := ⟨"AgentNetModel", "crash", "(I)Z"⟩
abbrev b_Mo_crash : ByteArray := prog_13_method_45_code
abbrev y_Mo_start : MethodName := ⟨"AgentNetModel", "start", "(I)Z"⟩
abbrev b_Mo_start : ByteArray := prog_13_method_46_code
abbrev y_Mo_copyMessage : MethodName := ⟨"AgentNetModel", "copyMessage", "(II)V"⟩
abbrev b_Mo_copyMessage : ByteArray := prog_13_method_47_code
abbrev y_Mo_hear : MethodName := ⟨"AgentNetModel", "hear", "()I"⟩
abbrev b_Mo_hear : ByteArray := prog_13_method_48_code
abbrev y_Mo_hearValue : MethodName := ⟨"AgentNetModel", "hearValue", "()J"⟩
abbrev b_Mo_hearValue : ByteArray := prog_13_method_49_code
abbrev y_Mo_unpack : MethodName := ⟨"AgentNetModel", "unpack", "(II)V"⟩
abbrev b_Mo_unpack : ByteArray := prog_13_method_50_code
abbrev y_Mo_deliver : MethodName := ⟨"AgentNetModel", "deliver", "()V"⟩
abbrev b_Mo_deliver : ByteArray := prog_13_method_51_code
abbrev y_Mo_net : MethodName := ⟨"AgentNetModel", "net", "(II)I"⟩
abbrev b_Mo_net : ByteArray := prog_13_method_52_code
abbrev y_Mo_message : MethodName := ⟨"AgentNetModel", "message", "(II)I"⟩
abbrev b_Mo_message : ByteArray := prog_13_method_53_code
abbrev y_Mo_slot : MethodName := ⟨"AgentNetModel", "slot", "(II)I"⟩
abbrev b_Mo_slot : ByteArray := prog_13_method_54_code
abbrev y_Mo_agent : MethodName := ⟨"AgentNetModel", "agent", "(III)I"⟩
abbrev b_Mo_agent : ByteArray := prog_13_method_55_code
abbrev y_Mo_host : MethodName := ⟨"AgentNetModel", "host", "(II)I"⟩
abbrev b_Mo_host : ByteArray := prog_13_method_56_code
abbrev y_Mo_sealed : MethodName := ⟨"AgentNetModel", "sealed", "(I)I"⟩
abbrev b_Mo_sealed : ByteArray := prog_13_method_57_code
abbrev y_Mo_outputs : MethodName := ⟨"AgentNetModel", "outputs", "(I)I"⟩
abbrev b_Mo_outputs : ByteArray := prog_13_method_58_code
abbrev y_Mo_output : MethodName := ⟨"AgentNetModel", "output", "(II)J"⟩
abbrev b_Mo_output : ByteArray := prog_13_method_59_code
abbrev y_Mo_runOn : MethodName := ⟨"AgentNetModel", "runOn", "(I)V"⟩
abbrev b_Mo_runOn : ByteArray := prog_13_method_60_code
abbrev y_Mo_runAlone : MethodName := ⟨"AgentNetModel", "runAlone", "(I)Z"⟩
abbrev b_Mo_runAlone : ByteArray := prog_13_method_61_code
abbrev y_Mo_expected : MethodName := ⟨"AgentNetModel", "expected", "(I)I"⟩
abbrev b_Mo_expected : ByteArray := prog_13_method_62_code
abbrev y_Mo_expectedOutput : MethodName := ⟨"AgentNetModel", "expectedOutput", "(II)J"⟩
abbrev b_Mo_expectedOutput : ByteArray := prog_13_method_63_code
abbrev y_Fr_init : MethodName := ⟨"AgentNet$FreeRun", "<init>", "()V"⟩
abbrev b_Fr_init : ByteArray := prog_2_method_1_code
abbrev y_Fr_follow : MethodName := ⟨"AgentNet$FreeRun", "follow", "(LAgentNet$Traveller;ILAgentNet$Processor;[LAgentNet$Script;[[I)V"⟩
abbrev b_Fr_follow : ByteArray := prog_2_method_2_code
abbrev y_Fr_runAlone : MethodName := ⟨"AgentNet$FreeRun", "runAlone", "(LAgentNet$Traveller;ILAgentNet$Processor;LAgentNet$Script;[[I)V"⟩
abbrev b_Fr_runAlone : ByteArray := prog_2_method_3_code
abbrev y_Me_init : MethodName := ⟨"AgentNet$Memory", "<init>", "()V"⟩
abbrev b_Me_init : ByteArray := prog_3_method_1_code
abbrev y_Me_copyFrom : MethodName := ⟨"AgentNet$Memory", "copyFrom", "(LAgentNet$Memory;)V"⟩
abbrev b_Me_copyFrom : ByteArray := prog_3_method_2_code
abbrev y_Me_settle : MethodName := ⟨"AgentNet$Memory", "settle", "(II)V"⟩
abbrev b_Me_settle : ByteArray := prog_3_method_3_code
abbrev y_Me_grant : MethodName := ⟨"AgentNet$Memory", "grant", "(III)V"⟩
abbrev b_Me_grant : ByteArray := prog_3_method_4_code
abbrev y_Me_running : MethodName := ⟨"AgentNet$Memory", "running", "()I"⟩
abbrev b_Me_running : ByteArray := prog_3_method_5_code
abbrev y_Me_filled : MethodName := ⟨"AgentNet$Memory", "filled", "()I"⟩
abbrev b_Me_filled : ByteArray := prog_3_method_6_code
abbrev y_Me_hopsOf : MethodName := ⟨"AgentNet$Memory", "hopsOf", "(I)I"⟩
abbrev b_Me_hopsOf : ByteArray := prog_3_method_7_code
abbrev y_Me_isLeaving : MethodName := ⟨"AgentNet$Memory", "isLeaving", "(II)Z"⟩
abbrev b_Me_isLeaving : ByteArray := prog_3_method_8_code
abbrev y_Me_passTime : MethodName := ⟨"AgentNet$Memory", "passTime", "()V"⟩
abbrev b_Me_passTime : ByteArray := prog_3_method_9_code
abbrev y_Ms_init : MethodName := ⟨"AgentNet$Message", "<init>", "()V"⟩
abbrev b_Ms_init : ByteArray := prog_4_method_1_code
abbrev y_Ms_address : MethodName := ⟨"AgentNet$Message", "address", "(IIII)V"⟩
abbrev b_Ms_address : ByteArray := prog_4_method_2_code
abbrev y_Ms_copyFrom : MethodName := ⟨"AgentNet$Message", "copyFrom", "(LAgentNet$Message;)V"⟩
abbrev b_Ms_copyFrom : ByteArray := prog_4_method_3_code
abbrev y_Ms_pack : MethodName := ⟨"AgentNet$Message", "pack", "(LAgentNet$Traveller;)V"⟩
abbrev b_Ms_pack : ByteArray := prog_4_method_4_code
abbrev y_Ms_unpack : MethodName := ⟨"AgentNet$Message", "unpack", "(LAgentNet$Traveller;)V"⟩
abbrev b_Ms_unpack : ByteArray := prog_4_method_5_code
abbrev y_Ms_putValue : MethodName := ⟨"AgentNet$Message", "putValue", "(J)V"⟩
abbrev b_Ms_putValue : ByteArray := prog_4_method_6_code
abbrev y_Ms_takeValue : MethodName := ⟨"AgentNet$Message", "takeValue", "()J"⟩
abbrev b_Ms_takeValue : ByteArray := prog_4_method_7_code
abbrev y_Ms_put : MethodName := ⟨"AgentNet$Message", "put", "(I)V"⟩
abbrev b_Ms_put : ByteArray := prog_4_method_8_code
abbrev y_Ms_take : MethodName := ⟨"AgentNet$Message", "take", "()I"⟩
abbrev b_Ms_take : ByteArray := prog_4_method_9_code
abbrev y_Ms_tell : MethodName := ⟨"AgentNet$Message", "tell", "(I)I"⟩
abbrev b_Ms_tell : ByteArray := prog_4_method_10_code
abbrev y_Nu_init : MethodName := ⟨"AgentNet$Numbering", "<init>", "()V"⟩
abbrev b_Nu_init : ByteArray := prog_5_method_1_code
abbrev y_Nu_renumber : MethodName := ⟨"AgentNet$Numbering", "renumber", "(LAgentNet$Traveller;)V"⟩
abbrev b_Nu_renumber : ByteArray := prog_5_method_2_code
abbrev y_Nu_renamed : MethodName := ⟨"AgentNet$Numbering", "renamed", "(J)J"⟩
abbrev b_Nu_renamed : ByteArray := prog_5_method_3_code
abbrev y_Pr_init : MethodName := ⟨"AgentNet$Processor", "<init>", "()V"⟩
abbrev b_Pr_init : ByteArray := prog_6_method_1_code
abbrev y_Pr_perform : MethodName := ⟨"AgentNet$Processor", "perform", "(LAgentNet$Traveller;LAgentNet$Script;[II)I"⟩
abbrev b_Pr_perform : ByteArray := prog_6_method_2_code
abbrev y_Pr_read : MethodName := ⟨"AgentNet$Processor", "read", "(LAgentNet$Traveller;LAgentNet$Script;)Z"⟩
abbrev b_Pr_read : ByteArray := prog_6_method_3_code
abbrev y_Pr_takesFit : MethodName := ⟨"AgentNet$Processor", "takesFit", "(LAgentNet$Traveller;)Z"⟩
abbrev b_Pr_takesFit : ByteArray := prog_6_method_4_code
abbrev y_Pr_isOfKind : MethodName := ⟨"AgentNet$Processor", "isOfKind", "(JI)Z"⟩
abbrev b_Pr_isOfKind : ByteArray := prog_6_method_5_code
abbrev y_Pr_boundsFit : MethodName := ⟨"AgentNet$Processor", "boundsFit", "(LAgentNet$Traveller;)Z"⟩
abbrev b_Pr_boundsFit : ByteArray := prog_6_method_6_code
abbrev y_Pr_doPlain : MethodName := ⟨"AgentNet$Processor", "doPlain", "(LAgentNet$Traveller;[II)I"⟩
abbrev b_Pr_doPlain : ByteArray := prog_6_method_7_code
abbrev y_Pr_doPairs : MethodName := ⟨"AgentNet$Processor", "doPairs", "(LAgentNet$Traveller;)I"⟩
abbrev b_Pr_doPairs : ByteArray := prog_6_method_8_code
abbrev y_Pr_say : MethodName := ⟨"AgentNet$Processor", "say", "(LAgentNet$Traveller;)I"⟩
abbrev b_Pr_say : ByteArray := prog_6_method_9_code
abbrev y_Pr_go : MethodName := ⟨"AgentNet$Processor", "go", "(LAgentNet$Traveller;I)I"⟩
abbrev b_Pr_go : ByteArray := prog_6_method_10_code
abbrev y_Pr_divide : MethodName := ⟨"AgentNet$Processor", "divide", "(LAgentNet$Traveller;)I"⟩
abbrev b_Pr_divide : ByteArray := prog_6_method_11_code
abbrev y_Sy_init : MethodName := ⟨"AgentNet$Sayings", "<init>", "()V"⟩
abbrev b_Sy_init : ByteArray := prog_7_method_1_code
abbrev y_Sy_put : MethodName := ⟨"AgentNet$Sayings", "put", "(III)V"⟩
abbrev b_Sy_put : ByteArray := prog_7_method_2_code
abbrev y_Sy_count : MethodName := ⟨"AgentNet$Sayings", "count", "(I)I"⟩
abbrev b_Sy_count : ByteArray := prog_7_method_3_code
abbrev y_Sy_valueOf : MethodName := ⟨"AgentNet$Sayings", "valueOf", "(II)J"⟩
abbrev b_Sy_valueOf : ByteArray := prog_7_method_4_code
abbrev y_Sy_copyFrom : MethodName := ⟨"AgentNet$Sayings", "copyFrom", "(LAgentNet$Sayings;)V"⟩
abbrev b_Sy_copyFrom : ByteArray := prog_7_method_5_code
abbrev y_Sy_addMissing : MethodName := ⟨"AgentNet$Sayings", "addMissing", "(LAgentNet$Sayings;)V"⟩
abbrev b_Sy_addMissing : ByteArray := prog_7_method_6_code
abbrev y_Sc_init : MethodName := ⟨"AgentNet$Script", "<init>", "()V"⟩
abbrev b_Sc_init : ByteArray := prog_8_method_1_code
abbrev y_Sc_append : MethodName := ⟨"AgentNet$Script", "append", "(JI)I"⟩
abbrev b_Sc_append : ByteArray := prog_8_method_2_code
abbrev y_Sc_at : MethodName := ⟨"AgentNet$Script", "at", "(I)I"⟩
abbrev b_Sc_at : ByteArray := prog_8_method_3_code
abbrev y_Si_init : MethodName := ⟨"AgentNet$Site", "<init>", "(I)V"⟩
abbrev b_Si_init : ByteArray := prog_9_method_1_code
abbrev y_Si_beginCopy : MethodName := ⟨"AgentNet$Site", "beginCopy", "()I"⟩
abbrev b_Si_beginCopy : ByteArray := prog_9_method_2_code
abbrev y_Si_seal : MethodName := ⟨"AgentNet$Site", "seal", "(LAgentNet$Sayings;LAgentNet$Wire;)V"⟩
abbrev b_Si_seal : ByteArray := prog_9_method_3_code
abbrev y_Si_goDown : MethodName := ⟨"AgentNet$Site", "goDown", "()V"⟩
abbrev b_Si_goDown : ByteArray := prog_9_method_4_code
abbrev y_Si_comeUp : MethodName := ⟨"AgentNet$Site", "comeUp", "()V"⟩
abbrev b_Si_comeUp : ByteArray := prog_9_method_5_code
abbrev y_Si_sendArrivals : MethodName := ⟨"AgentNet$Site", "sendArrivals", "(LAgentNet$Wire;)V"⟩
abbrev b_Si_sendArrivals : ByteArray := prog_9_method_6_code
abbrev y_Si_receive : MethodName := ⟨"AgentNet$Site", "receive", "(LAgentNet$Message;LAgentNet$Wire;)V"⟩
abbrev b_Si_receive : ByteArray := prog_9_method_7_code
abbrev y_Si_tell : MethodName := ⟨"AgentNet$Site", "tell", "(I)I"⟩
abbrev b_Si_tell : ByteArray := prog_9_method_8_code
abbrev y_Tr_init : MethodName := ⟨"AgentNet$Traveller", "<init>", "()V"⟩
abbrev b_Tr_init : ByteArray := prog_10_method_1_code
abbrev y_Tr_begin : MethodName := ⟨"AgentNet$Traveller", "begin", "(III)V"⟩
abbrev b_Tr_begin : ByteArray := prog_10_method_2_code
abbrev y_Tr_copyFrom : MethodName := ⟨"AgentNet$Traveller", "copyFrom", "(LAgentNet$Traveller;)V"⟩
abbrev b_Tr_copyFrom : ByteArray := prog_10_method_3_code
abbrev y_Tr_becomeChildOf : MethodName := ⟨"AgentNet$Traveller", "becomeChildOf", "(LAgentNet$Traveller;I)V"⟩
abbrev b_Tr_becomeChildOf : ByteArray := prog_10_method_4_code
abbrev y_Tr_push : MethodName := ⟨"AgentNet$Traveller", "push", "(J)V"⟩
abbrev b_Tr_push : ByteArray := prog_10_method_5_code
abbrev y_Tr_pushPair : MethodName := ⟨"AgentNet$Traveller", "pushPair", "(JJ)V"⟩
abbrev b_Tr_pushPair : ByteArray := prog_10_method_6_code
abbrev y_Tr_tell : MethodName := ⟨"AgentNet$Traveller", "tell", "(I)I"⟩
abbrev b_Tr_tell : ByteArray := prog_10_method_7_code
abbrev y_Wi_init : MethodName := ⟨"AgentNet$Wire", "<init>", "()V"⟩
abbrev b_Wi_init : ByteArray := prog_11_method_1_code
abbrev y_Wi_has : MethodName := ⟨"AgentNet$Wire", "has", "(I)Z"⟩
abbrev b_Wi_has : ByteArray := prog_11_method_2_code
abbrev y_Wi_isFull : MethodName := ⟨"AgentNet$Wire", "isFull", "()Z"⟩
abbrev b_Wi_isFull : ByteArray := prog_11_method_3_code
abbrev y_Wi_sendArrival : MethodName := ⟨"AgentNet$Wire", "sendArrival", "(LAgentNet$Traveller;II)V"⟩
abbrev b_Wi_sendArrival : ByteArray := prog_11_method_4_code
abbrev y_Wi_sendReceipt : MethodName := ⟨"AgentNet$Wire", "sendReceipt", "(IIII)V"⟩
abbrev b_Wi_sendReceipt : ByteArray := prog_11_method_5_code
abbrev y_Wi_repeat : MethodName := ⟨"AgentNet$Wire", "repeat", "(I)V"⟩
abbrev b_Wi_repeat : ByteArray := prog_11_method_6_code
abbrev y_Wi_remove : MethodName := ⟨"AgentNet$Wire", "remove", "(I)LAgentNet$Message;"⟩
abbrev b_Wi_remove : ByteArray := prog_11_method_7_code
abbrev y_Lw_launch : MethodName := ⟨"AgentNetLaw", "launch", "(LAgentNet;III[J)I"⟩
abbrev b_Lw_launch : ByteArray := method_3_code
abbrev y_Lw_step : MethodName := ⟨"AgentNetLaw", "step", "(LAgentNet;II[J)I"⟩
abbrev b_Lw_step : ByteArray := method_4_code
abbrev y_Lw_tick : MethodName := ⟨"AgentNetLaw", "tick", "(LAgentNet;I[J)I"⟩
abbrev b_Lw_tick : ByteArray := method_5_code
abbrev y_Lw_checkpoint : MethodName := ⟨"AgentNetLaw", "checkpoint", "(LAgentNet;I[J)I"⟩
abbrev b_Lw_checkpoint : ByteArray := method_6_code
abbrev y_Lw_write : MethodName := ⟨"AgentNetLaw", "write", "(LAgentNet;II[J)I"⟩
abbrev b_Lw_write : ByteArray := method_7_code
abbrev y_Lw_crash : MethodName := ⟨"AgentNetLaw", "crash", "(LAgentNet;I[J)I"⟩
abbrev b_Lw_crash : ByteArray := method_8_code
abbrev y_Lw_start : MethodName := ⟨"AgentNetLaw", "start", "(LAgentNet;I[J)I"⟩
abbrev b_Lw_start : ByteArray := method_9_code
abbrev y_Lw_net : MethodName := ⟨"AgentNetLaw", "net", "(LAgentNet;II[J)I"⟩
abbrev b_Lw_net : ByteArray := method_10_code
abbrev y_Lw_law : MethodName := ⟨"AgentNetLaw", "law", "([I)Z"⟩
abbrev b_Lw_law : ByteArray := code
