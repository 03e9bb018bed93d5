/-! Words of the tables by their places; the classes, their fields. -/
def sf_TB : List Cond := lw_tbl.filter goodWord
theorem sf_in1 {w : Cond} (i : Nat) (h : tables_1_1[i]? = some w) (g : goodWord w = true) : w ∈ sf_TB := List.mem_filter.mpr ⟨List.mem_append_right _ (show w ∈ tables_1 from List.mem_append_left _ (List.mem_of_getElem? h)), g⟩
theorem sf_in2 {w : Cond} (i : Nat) (h : tables_1_2[i]? = some w) (g : goodWord w = true) : w ∈ sf_TB := List.mem_filter.mpr ⟨List.mem_append_right _ (show w ∈ tables_1 from List.mem_append_right _ (List.mem_append_left _ (List.mem_of_getElem? h))), g⟩
theorem sf_in3 {w : Cond} (i : Nat) (h : tables_1_3[i]? = some w) (g : goodWord w = true) : w ∈ sf_TB := List.mem_filter.mpr ⟨List.mem_append_right _ (show w ∈ tables_1 from List.mem_append_right _ (List.mem_append_right _ (List.mem_append_left _ (List.mem_of_getElem? h)))), g⟩
theorem sf_in4 {w : Cond} (i : Nat) (h : tables_1_4[i]? = some w) (g : goodWord w = true) : w ∈ sf_TB := List.mem_filter.mpr ⟨List.mem_append_right _ (show w ∈ tables_1 from List.mem_append_right _ (List.mem_append_right _ (List.mem_append_right _ (List.mem_append_left _ (List.mem_of_getElem? h))))), g⟩
theorem sf_in5 {w : Cond} (i : Nat) (h : tables_1_5[i]? = some w) (g : goodWord w = true) : w ∈ sf_TB := List.mem_filter.mpr ⟨List.mem_append_right _ (show w ∈ tables_1 from List.mem_append_right _ (List.mem_append_right _ (List.mem_append_right _ (List.mem_append_right _ (List.mem_append_left _ (List.mem_of_getElem? h)))))), g⟩
theorem sf_in6 {w : Cond} (i : Nat) (h : tables_1_6[i]? = some w) (g : goodWord w = true) : w ∈ sf_TB := List.mem_filter.mpr ⟨List.mem_append_right _ (show w ∈ tables_1 from List.mem_append_right _ (List.mem_append_right _ (List.mem_append_right _ (List.mem_append_right _ (List.mem_append_right _ (List.mem_append_left _ (List.mem_of_getElem? h))))))), g⟩
theorem sf_in7 {w : Cond} (i : Nat) (h : tables_1_7[i]? = some w) (g : goodWord w = true) : w ∈ sf_TB := List.mem_filter.mpr ⟨List.mem_append_right _ (show w ∈ tables_1 from List.mem_append_right _ (List.mem_append_right _ (List.mem_append_right _ (List.mem_append_right _ (List.mem_append_right _ (List.mem_append_right _ (List.mem_append_left _ (List.mem_of_getElem? h)))))))), g⟩
theorem sf_in8 {w : Cond} (i : Nat) (h : tables_1_8[i]? = some w) (g : goodWord w = true) : w ∈ sf_TB := List.mem_filter.mpr ⟨List.mem_append_right _ (show w ∈ tables_1 from List.mem_append_right _ (List.mem_append_right _ (List.mem_append_right _ (List.mem_append_right _ (List.mem_append_right _ (List.mem_append_right _ (List.mem_append_right _ (List.mem_of_getElem? h)))))))), g⟩
theorem sf_ip1 {q : MethodName × Nat} (i : Nat) (h : lw_privs_1[i]? = some q) (g : goodWord (Cond.selects q.1.cls q.1 q.1) = true) : Cond.selects q.1.cls q.1 q.1 ∈ sf_TB := List.mem_filter.mpr ⟨List.mem_append_left _ (List.mem_map.mpr ⟨q, (show q ∈ lw_privs from List.mem_append_left _ (List.mem_of_getElem? h)), rfl⟩), g⟩
theorem sf_ip2 {q : MethodName × Nat} (i : Nat) (h : lw_privs_2[i]? = some q) (g : goodWord (Cond.selects q.1.cls q.1 q.1) = true) : Cond.selects q.1.cls q.1 q.1 ∈ sf_TB := List.mem_filter.mpr ⟨List.mem_append_left _ (List.mem_map.mpr ⟨q, (show q ∈ lw_privs from List.mem_append_right _ (List.mem_append_left _ (List.mem_of_getElem? h))), rfl⟩), g⟩
theorem sf_ip3 {q : MethodName × Nat} (i : Nat) (h : lw_privs_3[i]? = some q) (g : goodWord (Cond.selects q.1.cls q.1 q.1) = true) : Cond.selects q.1.cls q.1 q.1 ∈ sf_TB := List.mem_filter.mpr ⟨List.mem_append_left _ (List.mem_map.mpr ⟨q, (show q ∈ lw_privs from List.mem_append_right _ (List.mem_append_right _ (List.mem_append_left _ (List.mem_of_getElem? h)))), rfl⟩), g⟩
theorem sf_ip4 {q : MethodName × Nat} (i : Nat) (h : lw_privs_4[i]? = some q) (g : goodWord (Cond.selects q.1.cls q.1 q.1) = true) : Cond.selects q.1.cls q.1 q.1 ∈ sf_TB := List.mem_filter.mpr ⟨List.mem_append_left _ (List.mem_map.mpr ⟨q, (show q ∈ lw_privs from List.mem_append_right _ (List.mem_append_right _ (List.mem_append_right _ (List.mem_append_left _ (List.mem_of_getElem? h))))), rfl⟩), g⟩
theorem sf_ip5 {q : MethodName × Nat} (i : Nat) (h : lw_privs_5[i]? = some q) (g : goodWord (Cond.selects q.1.cls q.1 q.1) = true) : Cond.selects q.1.cls q.1 q.1 ∈ sf_TB := List.mem_filter.mpr ⟨List.mem_append_left _ (List.mem_map.mpr ⟨q, (show q ∈ lw_privs from List.mem_append_right _ (List.mem_append_right _ (List.mem_append_right _ (List.mem_append_right _ (List.mem_append_left _ (List.mem_of_getElem? h)))))), rfl⟩), g⟩
theorem sf_ip6 {q : MethodName × Nat} (i : Nat) (h : lw_privs_6[i]? = some q) (g : goodWord (Cond.selects q.1.cls q.1 q.1) = true) : Cond.selects q.1.cls q.1 q.1 ∈ sf_TB := List.mem_filter.mpr ⟨List.mem_append_left _ (List.mem_map.mpr ⟨q, (show q ∈ lw_privs from List.mem_append_right _ (List.mem_append_right _ (List.mem_append_right _ (List.mem_append_right _ (List.mem_append_right _ (List.mem_append_left _ (List.mem_of_getElem? h))))))), rfl⟩), g⟩
theorem sf_ip7 {q : MethodName × Nat} (i : Nat) (h : lw_privs_7[i]? = some q) (g : goodWord (Cond.selects q.1.cls q.1 q.1) = true) : Cond.selects q.1.cls q.1 q.1 ∈ sf_TB := List.mem_filter.mpr ⟨List.mem_append_left _ (List.mem_map.mpr ⟨q, (show q ∈ lw_privs from List.mem_append_right _ (List.mem_append_right _ (List.mem_append_right _ (List.mem_append_right _ (List.mem_append_right _ (List.mem_append_right _ (List.mem_of_getElem? h))))))), rfl⟩), g⟩
set_option maxRecDepth 20000 in
theorem sw_0 : (Jvm.Cond.initialized "SplitFaresLaw") ∈ sf_TB := sf_in1 0 rfl rfl
set_option maxRecDepth 20000 in
theorem sw_1 : (Jvm.Cond.initialized "SplitFares") ∈ sf_TB := sf_in1 1 rfl rfl
set_option maxRecDepth 20000 in
theorem sw_2 : (Jvm.Cond.initialized "SplitFares$Desk") ∈ sf_TB := sf_in1 2 rfl rfl
set_option maxRecDepth 20000 in
theorem sw_3 : (Jvm.Cond.initialized "SplitFares$Office") ∈ sf_TB := sf_in1 3 rfl rfl
set_option maxRecDepth 20000 in
theorem sw_4 : (Jvm.Cond.initialized "SplitFares$Pocket") ∈ sf_TB := sf_in1 4 rfl rfl
set_option maxRecDepth 20000 in
theorem sw_5 : (Jvm.Cond.initialized "SplitFares$Machine") ∈ sf_TB := sf_in1 5 rfl rfl
set_option maxRecDepth 20000 in
theorem sw_6 : (Jvm.Cond.initialized "SplitFares$Ways") ∈ sf_TB := sf_in1 6 rfl rfl
set_option maxRecDepth 20000 in
theorem sw_7 : (Jvm.Cond.initialized "SplitFares$Log") ∈ sf_TB := sf_in1 7 rfl rfl
set_option maxRecDepth 20000 in
theorem sw_8 : (Jvm.Cond.initialized "SplitFares$Tape") ∈ sf_TB := sf_in1 8 rfl rfl
set_option maxRecDepth 20000 in
theorem sw_9 : (Jvm.Cond.initialized "SplitFares$Reader") ∈ sf_TB := sf_in1 9 rfl rfl
set_option maxRecDepth 20000 in
theorem sw_10 : (Jvm.Cond.initialized "SplitFares$Program") ∈ sf_TB := sf_in1 10 rfl rfl
set_option maxRecDepth 20000 in
theorem sw_11 : (Jvm.Cond.initialized "SplitFares$Tokens") ∈ sf_TB := sf_in1 11 rfl rfl
set_option maxRecDepth 20000 in
theorem sw_12 : (Jvm.Cond.initialized "SplitFaresModel") ∈ sf_TB := sf_in1 12 rfl rfl
set_option maxRecDepth 20000 in
theorem sw_13 : (Jvm.Cond.initialized "java/lang/Integer") ∈ sf_TB := sf_in1 13 rfl rfl
set_option maxRecDepth 20000 in
theorem sw_14 : (Jvm.Cond.initialized "java/lang/Math") ∈ sf_TB := sf_in1 14 rfl rfl
set_option maxRecDepth 20000 in
theorem sw_15 : (Jvm.Cond.initialized "java/lang/String") ∈ sf_TB := sf_in1 15 rfl rfl
set_option maxRecDepth 20000 in
theorem sw_16 : (Jvm.Cond.initialized "java/lang/StringLatin1") ∈ sf_TB := sf_in1 16 rfl rfl
set_option maxRecDepth 20000 in
theorem sw_17 : (Jvm.Cond.initialized "jdk/internal/util/Preconditions") ∈ sf_TB := sf_in1 17 rfl rfl
set_option maxRecDepth 20000 in
theorem sw_18 : (Jvm.Cond.initialized "java/lang/StringUTF16") ∈ sf_TB := sf_in1 18 rfl rfl
set_option maxRecDepth 20000 in
theorem sw_19 : (Jvm.Cond.initialized "java/lang/System") ∈ sf_TB := sf_in1 19 rfl rfl
set_option maxRecDepth 20000 in
theorem sw_20 : (Jvm.Cond.initialized "java/util/Arrays") ∈ sf_TB := sf_in1 20 rfl rfl
set_option maxRecDepth 20000 in
theorem sw_21 : (Jvm.Cond.classLink "SplitFaresLaw" (7 : Nat) "SplitFares") ∈ sf_TB := sf_in1 21 rfl rfl
set_option maxRecDepth 20000 in
theorem sw_22 : (Jvm.Cond.instantiable "SplitFares" (13 : Nat)) ∈ sf_TB := sf_in1 22 rfl rfl
set_option maxRecDepth 20000 in
theorem sw_23 : (Jvm.Cond.methodLink "SplitFaresLaw" (9 : Nat) ({ cls := "SplitFares", name := "<init>", desc := "()V" } : Jvm.MethodName)) ∈ sf_TB := sf_in1 23 rfl rfl
set_option maxRecDepth 20000 in
theorem sw_24 : (Jvm.Cond.instanceMethod ({ cls := "SplitFares", name := "<init>", desc := "()V" } : Jvm.MethodName)) ∈ sf_TB := sf_in1 24 rfl rfl
set_option maxRecDepth 20000 in
theorem sw_25 : (Jvm.Cond.code ({ cls := "SplitFares", name := "<init>", desc := "()V" } : Jvm.MethodName) prog_1_method_1_code (1 : Nat) (Option.none : Option Jvm.ClassFile.FieldType)) ∈ sf_TB := sf_in1 25 rfl rfl
set_option maxRecDepth 20000 in
theorem sw_26 : (Jvm.Cond.methodLink "SplitFares" (3 : Nat) ({ cls := "java/lang/Object", name := "<init>", desc := "()V" } : Jvm.MethodName)) ∈ sf_TB := sf_in1 26 rfl rfl
set_option maxRecDepth 20000 in
theorem sw_27 : (Jvm.Cond.instanceMethod ({ cls := "java/lang/Object", name := "<init>", desc := "()V" } : Jvm.MethodName)) ∈ sf_TB := sf_in1 27 rfl rfl
set_option maxRecDepth 20000 in
theorem sw_28 : (Jvm.Cond.code ({ cls := "java/lang/Object", name := "<init>", desc := "()V" } : Jvm.MethodName) object_method_1_code (1 : Nat) (Option.none : Option Jvm.ClassFile.FieldType)) ∈ sf_TB := sf_in1 28 rfl rfl
set_option maxRecDepth 20000 in
theorem sw_29 : (Jvm.Cond.classLink "SplitFares" (9 : Nat) "SplitFares$Desk") ∈ sf_TB := sf_in1 29 rfl rfl
set_option maxRecDepth 20000 in
theorem sw_30 : (Jvm.Cond.instantiable "SplitFares$Desk" (8 : Nat)) ∈ sf_TB := sf_in1 30 rfl rfl
set_option maxRecDepth 20000 in
theorem sw_32 : (Jvm.Cond.instanceMethod ({ cls := "SplitFares$Desk", name := "<init>", desc := "()V" } : Jvm.MethodName)) ∈ sf_TB := sf_in1 32 rfl rfl
set_option maxRecDepth 20000 in
theorem sw_33 : (Jvm.Cond.code ({ cls := "SplitFares$Desk", name := "<init>", desc := "()V" } : Jvm.MethodName) prog_2_method_1_code (1 : Nat) (Option.none : Option Jvm.ClassFile.FieldType)) ∈ sf_TB := sf_in1 33 rfl rfl
set_option maxRecDepth 20000 in
theorem sw_34 : (Jvm.Cond.methodLink "SplitFares$Desk" (3 : Nat) ({ cls := "java/lang/Object", name := "<init>", desc := "()V" } : Jvm.MethodName)) ∈ sf_TB := sf_in1 34 rfl rfl
set_option maxRecDepth 20000 in
theorem sw_35 : (Jvm.Cond.classLink "SplitFares$Desk" (9 : Nat) "SplitFares$Office") ∈ sf_TB := sf_in1 35 rfl rfl
set_option maxRecDepth 20000 in
theorem sw_36 : (Jvm.Cond.instantiable "SplitFares$Office" (14 : Nat)) ∈ sf_TB := sf_in1 36 rfl rfl
set_option maxRecDepth 20000 in
theorem sw_38 : (Jvm.Cond.instanceMethod ({ cls := "SplitFares$Office", name := "<init>", desc := "()V" } : Jvm.MethodName)) ∈ sf_TB := sf_in1 38 rfl rfl
set_option maxRecDepth 20000 in
theorem sw_39 : (Jvm.Cond.code ({ cls := "SplitFares$Office", name := "<init>", desc := "()V" } : Jvm.MethodName) prog_5_method_1_code (1 : Nat) (Option.none : Option Jvm.ClassFile.FieldType)) ∈ sf_TB := sf_in1 39 rfl rfl
set_option maxRecDepth 20000 in
theorem sw_40 : (Jvm.Cond.methodLink "SplitFares$Office" (3 : Nat) ({ cls := "java/lang/Object", name := "<init>", desc := "()V" } : Jvm.MethodName)) ∈ sf_TB := sf_in1 40 rfl rfl
set_option maxRecDepth 20000 in
theorem sw_41 : (Jvm.Cond.classLink "SplitFares$Office" (9 : Nat) "SplitFares$Pocket") ∈ sf_TB := sf_in1 41 rfl rfl
set_option maxRecDepth 20000 in
theorem sw_42 : (Jvm.Cond.instantiable "SplitFares$Pocket" (4 : Nat)) ∈ sf_TB := sf_in1 42 rfl rfl
set_option maxRecDepth 20000 in
theorem sw_44 : (Jvm.Cond.instanceMethod ({ cls := "SplitFares$Pocket", name := "<init>", desc := "()V" } : Jvm.MethodName)) ∈ sf_TB := sf_in1 44 rfl rfl
set_option maxRecDepth 20000 in
theorem sw_45 : (Jvm.Cond.code ({ cls := "SplitFares$Pocket", name := "<init>", desc := "()V" } : Jvm.MethodName) prog_6_method_1_code (1 : Nat) (Option.none : Option Jvm.ClassFile.FieldType)) ∈ sf_TB := sf_in1 45 rfl rfl
set_option maxRecDepth 20000 in
theorem sw_46 : (Jvm.Cond.methodLink "SplitFares$Pocket" (3 : Nat) ({ cls := "java/lang/Object", name := "<init>", desc := "()V" } : Jvm.MethodName)) ∈ sf_TB := sf_in1 46 rfl rfl
set_option maxRecDepth 20000 in
theorem sw_47 : (Jvm.Cond.fieldLink "SplitFares$Pocket" (9 : Nat) "SplitFares$Pocket" "tickets" "[I") ∈ sf_TB := sf_in1 47 rfl rfl
set_option maxRecDepth 20000 in
theorem sw_48 : (Jvm.Cond.fieldLink "SplitFares$Pocket" (15 : Nat) "SplitFares$Pocket" "purse" "I") ∈ sf_TB := sf_in1 48 rfl rfl
set_option maxRecDepth 20000 in
theorem sw_49 : (Jvm.Cond.fieldLink "SplitFares$Desk" (67 : Nat) "SplitFares$Pocket" "purse" "I") ∈ sf_TB := sf_in1 49 rfl rfl
set_option maxRecDepth 20000 in
theorem sw_50 : (Jvm.Cond.fieldLink "SplitFares" (253 : Nat) "SplitFares$Pocket" "purse" "I") ∈ sf_TB := sf_in1 50 rfl rfl
set_option maxRecDepth 20000 in
theorem sw_51 : (Jvm.Cond.fieldLink "SplitFares$Pocket" (19 : Nat) "SplitFares$Pocket" "at" "I") ∈ sf_TB := sf_in1 51 rfl rfl
set_option maxRecDepth 20000 in
theorem sw_52 : (Jvm.Cond.fieldLink "SplitFares$Desk" (92 : Nat) "SplitFares$Pocket" "at" "I") ∈ sf_TB := sf_in1 52 rfl rfl
set_option maxRecDepth 20000 in
theorem sw_53 : (Jvm.Cond.fieldLink "SplitFares" (251 : Nat) "SplitFares$Pocket" "at" "I") ∈ sf_TB := sf_in1 53 rfl rfl
set_option maxRecDepth 20000 in
theorem sw_54 : (Jvm.Cond.fieldLink "SplitFares$Pocket" (22 : Nat) "SplitFares$Pocket" "day" "I") ∈ sf_TB := sf_in1 54 rfl rfl
set_option maxRecDepth 20000 in
theorem sw_55 : (Jvm.Cond.fieldLink "SplitFares$Desk" (111 : Nat) "SplitFares$Pocket" "day" "I") ∈ sf_TB := sf_in1 55 rfl rfl
set_option maxRecDepth 20000 in
theorem sw_56 : (Jvm.Cond.fieldLink "SplitFares$Office" (94 : Nat) "SplitFares$Pocket" "day" "I") ∈ sf_TB := sf_in1 56 rfl rfl
set_option maxRecDepth 20000 in
theorem sw_57 : (Jvm.Cond.fieldLink "SplitFares" (297 : Nat) "SplitFares$Pocket" "day" "I") ∈ sf_TB := sf_in1 57 rfl rfl
set_option maxRecDepth 20000 in
theorem sw_58 : (Jvm.Cond.laysFinal "SplitFares$Pocket" "SplitFares$Pocket" "tickets" "[I") ∈ sf_TB := sf_in1 58 rfl rfl
set_option maxRecDepth 20000 in
theorem sw_60 : (Jvm.Cond.lays "SplitFares$Pocket" "SplitFares$Pocket" "purse" "I") ∈ sf_TB := sf_in1 60 rfl rfl
set_option maxRecDepth 20000 in
theorem sw_62 : (Jvm.Cond.lays "SplitFares$Pocket" "SplitFares$Pocket" "at" "I") ∈ sf_TB := sf_in1 62 rfl rfl
set_option maxRecDepth 20000 in
theorem sw_64 : (Jvm.Cond.lays "SplitFares$Pocket" "SplitFares$Pocket" "day" "I") ∈ sf_TB := sf_in1 64 rfl rfl
set_option maxRecDepth 20000 in
theorem sw_67 : (Jvm.Cond.arrayClass Jvm.ClassFile.FieldType.int) ∈ sf_TB := sf_in1 67 rfl rfl
set_option maxRecDepth 20000 in
theorem sw_68 : (Jvm.Cond.classLink "SplitFares$Office" (38 : Nat) "SplitFares$Program") ∈ sf_TB := sf_in1 68 rfl rfl
set_option maxRecDepth 20000 in
theorem sw_70 : (Jvm.Cond.classLink "SplitFares$Office" (59 : Nat) "SplitFares$Machine") ∈ sf_TB := sf_in1 70 rfl rfl
set_option maxRecDepth 20000 in
theorem sw_71 : (Jvm.Cond.instantiable "SplitFares$Machine" (2 : Nat)) ∈ sf_TB := sf_in1 71 rfl rfl
set_option maxRecDepth 20000 in
theorem sw_73 : (Jvm.Cond.instanceMethod ({ cls := "SplitFares$Machine", name := "<init>", desc := "()V" } : Jvm.MethodName)) ∈ sf_TB := sf_in1 73 rfl rfl
set_option maxRecDepth 20000 in
theorem sw_74 : (Jvm.Cond.code ({ cls := "SplitFares$Machine", name := "<init>", desc := "()V" } : Jvm.MethodName) prog_4_method_1_code (1 : Nat) (Option.none : Option Jvm.ClassFile.FieldType)) ∈ sf_TB := sf_in1 74 rfl rfl
set_option maxRecDepth 20000 in
theorem sw_75 : (Jvm.Cond.methodLink "SplitFares$Machine" (3 : Nat) ({ cls := "java/lang/Object", name := "<init>", desc := "()V" } : Jvm.MethodName)) ∈ sf_TB := sf_in1 75 rfl rfl
set_option maxRecDepth 20000 in
theorem sw_76 : (Jvm.Cond.fieldLink "SplitFares$Machine" (9 : Nat) "SplitFares$Machine" "words" "[I") ∈ sf_TB := sf_in1 76 rfl rfl
set_option maxRecDepth 20000 in
theorem sw_77 : (Jvm.Cond.fieldLink "SplitFares$Desk" (151 : Nat) "SplitFares$Machine" "words" "[I") ∈ sf_TB := sf_in1 77 rfl rfl
set_option maxRecDepth 20000 in
theorem sw_78 : (Jvm.Cond.fieldLink "SplitFares$Office" (132 : Nat) "SplitFares$Machine" "words" "[I") ∈ sf_TB := sf_in1 78 rfl rfl
set_option maxRecDepth 20000 in
theorem sw_79 : (Jvm.Cond.fieldLink "SplitFares$Machine" (15 : Nat) "SplitFares$Machine" "stack" "[I") ∈ sf_TB := sf_in1 79 rfl rfl
set_option maxRecDepth 20000 in
theorem sw_80 : (Jvm.Cond.laysFinal "SplitFares$Machine" "SplitFares$Machine" "words" "[I") ∈ sf_TB := sf_in1 80 rfl rfl
set_option maxRecDepth 20000 in
theorem sw_82 : (Jvm.Cond.laysFinal "SplitFares$Machine" "SplitFares$Machine" "stack" "[I") ∈ sf_TB := sf_in1 82 rfl rfl
set_option maxRecDepth 20000 in
theorem sw_85 : (Jvm.Cond.fieldLink "SplitFares$Office" (12 : Nat) "SplitFares$Office" "pocket" "LSplitFares$Pocket;") ∈ sf_TB := sf_in1 85 rfl rfl
set_option maxRecDepth 20000 in
theorem sw_86 : (Jvm.Cond.fieldLink "SplitFares$Desk" (60 : Nat) "SplitFares$Office" "pocket" "LSplitFares$Pocket;") ∈ sf_TB := sf_in1 86 rfl rfl
set_option maxRecDepth 20000 in
theorem sw_87 : (Jvm.Cond.fieldLink "SplitFares$Ways" (41 : Nat) "SplitFares$Office" "pocket" "LSplitFares$Pocket;") ∈ sf_TB := sf_in1 87 rfl rfl
set_option maxRecDepth 20000 in
theorem sw_88 : (Jvm.Cond.fieldLink "SplitFares" (107 : Nat) "SplitFares$Office" "pocket" "LSplitFares$Pocket;") ∈ sf_TB := sf_in1 88 rfl rfl
set_option maxRecDepth 20000 in
theorem sw_89 : (Jvm.Cond.fieldLink "SplitFares$Office" (18 : Nat) "SplitFares$Office" "trainCount" "I") ∈ sf_TB := sf_in1 89 rfl rfl
set_option maxRecDepth 20000 in
theorem sw_90 : (Jvm.Cond.fieldLink "SplitFares$Desk" (166 : Nat) "SplitFares$Office" "trainCount" "I") ∈ sf_TB := sf_in1 90 rfl rfl
set_option maxRecDepth 20000 in
theorem sw_91 : (Jvm.Cond.fieldLink "SplitFares" (288 : Nat) "SplitFares$Office" "trainCount" "I") ∈ sf_TB := sf_in1 91 rfl rfl
set_option maxRecDepth 20000 in
theorem sw_92 : (Jvm.Cond.fieldLink "SplitFares$Office" (22 : Nat) "SplitFares$Office" "stops" "[I") ∈ sf_TB := sf_in1 92 rfl rfl
set_option maxRecDepth 20000 in
theorem sw_93 : (Jvm.Cond.fieldLink "SplitFares" (83 : Nat) "SplitFares$Office" "stops" "[I") ∈ sf_TB := sf_in1 93 rfl rfl
set_option maxRecDepth 20000 in
theorem sw_94 : (Jvm.Cond.fieldLink "SplitFares$Desk" (158 : Nat) "SplitFares$Office" "stops" "[I") ∈ sf_TB := sf_in1 94 rfl rfl
set_option maxRecDepth 20000 in
theorem sw_95 : (Jvm.Cond.fieldLink "SplitFares$Office" (26 : Nat) "SplitFares$Office" "ups" "[I") ∈ sf_TB := sf_in1 95 rfl rfl
set_option maxRecDepth 20000 in
theorem sw_96 : (Jvm.Cond.fieldLink "SplitFares" (86 : Nat) "SplitFares$Office" "ups" "[I") ∈ sf_TB := sf_in1 96 rfl rfl
set_option maxRecDepth 20000 in
theorem sw_97 : (Jvm.Cond.fieldLink "SplitFares$Office" (29 : Nat) "SplitFares$Office" "hours" "[I") ∈ sf_TB := sf_in1 97 rfl rfl
set_option maxRecDepth 20000 in
theorem sw_98 : (Jvm.Cond.fieldLink "SplitFares" (89 : Nat) "SplitFares$Office" "hours" "[I") ∈ sf_TB := sf_in1 98 rfl rfl
set_option maxRecDepth 20000 in
theorem sw_99 : (Jvm.Cond.fieldLink "SplitFares$Office" (32 : Nat) "SplitFares$Office" "lawCount" "I") ∈ sf_TB := sf_in1 99 rfl rfl
set_option maxRecDepth 20000 in
theorem sw_100 : (Jvm.Cond.fieldLink "SplitFares" (151 : Nat) "SplitFares$Office" "lawCount" "I") ∈ sf_TB := sf_in1 100 rfl rfl
set_option maxRecDepth 20000 in
theorem sw_101 : (Jvm.Cond.fieldLink "SplitFares$Office" (35 : Nat) "SplitFares$Office" "lawInForce" "I") ∈ sf_TB := sf_in1 101 rfl rfl
set_option maxRecDepth 20000 in
theorem sw_102 : (Jvm.Cond.fieldLink "SplitFares" (197 : Nat) "SplitFares$Office" "lawInForce" "I") ∈ sf_TB := sf_in1 102 rfl rfl
set_option maxRecDepth 20000 in
theorem sw_103 : (Jvm.Cond.fieldLink "SplitFares$Office" (40 : Nat) "SplitFares$Office" "laws" "[LSplitFares$Program;") ∈ sf_TB := sf_in1 103 rfl rfl
set_option maxRecDepth 20000 in
theorem sw_104 : (Jvm.Cond.fieldLink "SplitFares$Office" (44 : Nat) "SplitFares$Office" "toldCount" "I") ∈ sf_TB := sf_in1 104 rfl rfl
set_option maxRecDepth 20000 in
theorem sw_105 : (Jvm.Cond.fieldLink "SplitFares" (262 : Nat) "SplitFares$Office" "toldCount" "I") ∈ sf_TB := sf_in1 105 rfl rfl
set_option maxRecDepth 20000 in
theorem sw_106 : (Jvm.Cond.fieldLink "SplitFares$Office" (47 : Nat) "SplitFares$Office" "toldStations" "[I") ∈ sf_TB := sf_in1 106 rfl rfl
set_option maxRecDepth 20000 in
theorem sw_107 : (Jvm.Cond.fieldLink "SplitFares" (316 : Nat) "SplitFares$Office" "toldStations" "[I") ∈ sf_TB := sf_in1 107 rfl rfl
set_option maxRecDepth 20000 in
theorem sw_108 : (Jvm.Cond.fieldLink "SplitFares$Office" (50 : Nat) "SplitFares$Office" "toldCosts" "[I") ∈ sf_TB := sf_in1 108 rfl rfl
set_option maxRecDepth 20000 in
theorem sw_109 : (Jvm.Cond.fieldLink "SplitFares" (322 : Nat) "SplitFares$Office" "toldCosts" "[I") ∈ sf_TB := sf_in1 109 rfl rfl
set_option maxRecDepth 20000 in
theorem sw_110 : (Jvm.Cond.fieldLink "SplitFares$Office" (53 : Nat) "SplitFares$Office" "checks" "I") ∈ sf_TB := sf_in1 110 rfl rfl
set_option maxRecDepth 20000 in
theorem sw_111 : (Jvm.Cond.fieldLink "SplitFares$Office" (56 : Nat) "SplitFares$Office" "mood" "I") ∈ sf_TB := sf_in1 111 rfl rfl
set_option maxRecDepth 20000 in
theorem sw_112 : (Jvm.Cond.fieldLink "SplitFares$Office" (62 : Nat) "SplitFares$Office" "machine" "LSplitFares$Machine;") ∈ sf_TB := sf_in1 112 rfl rfl
set_option maxRecDepth 20000 in
theorem sw_113 : (Jvm.Cond.laysFinal "SplitFares$Office" "SplitFares$Office" "pocket" "LSplitFares$Pocket;") ∈ sf_TB := sf_in1 113 rfl rfl
set_option maxRecDepth 20000 in
theorem sw_115 : (Jvm.Cond.lays "SplitFares$Office" "SplitFares$Office" "trainCount" "I") ∈ sf_TB := sf_in1 115 rfl rfl
set_option maxRecDepth 20000 in
theorem sw_117 : (Jvm.Cond.laysFinal "SplitFares$Office" "SplitFares$Office" "stops" "[I") ∈ sf_TB := sf_in1 117 rfl rfl
set_option maxRecDepth 20000 in
theorem sw_119 : (Jvm.Cond.laysFinal "SplitFares$Office" "SplitFares$Office" "ups" "[I") ∈ sf_TB := sf_in1 119 rfl rfl
set_option maxRecDepth 20000 in
theorem sw_121 : (Jvm.Cond.laysFinal "SplitFares$Office" "SplitFares$Office" "hours" "[I") ∈ sf_TB := sf_in1 121 rfl rfl
set_option maxRecDepth 20000 in
theorem sw_123 : (Jvm.Cond.lays "SplitFares$Office" "SplitFares$Office" "lawCount" "I") ∈ sf_TB := sf_in1 123 rfl rfl
set_option maxRecDepth 20000 in
theorem sw_125 : (Jvm.Cond.lays "SplitFares$Office" "SplitFares$Office" "lawInForce" "I") ∈ sf_TB := sf_in1 125 rfl rfl
set_option maxRecDepth 20000 in
theorem sw_127 : (Jvm.Cond.laysFinal "SplitFares$Office" "SplitFares$Office" "laws" "[LSplitFares$Program;") ∈ sf_TB := sf_in1 127 rfl rfl
set_option maxRecDepth 20000 in
theorem sw_129 : (Jvm.Cond.lays "SplitFares$Office" "SplitFares$Office" "toldCount" "I") ∈ sf_TB := sf_in1 129 rfl rfl
set_option maxRecDepth 20000 in
theorem sw_131 : (Jvm.Cond.laysFinal "SplitFares$Office" "SplitFares$Office" "toldStations" "[I") ∈ sf_TB := sf_in1 131 rfl rfl
set_option maxRecDepth 20000 in
theorem sw_133 : (Jvm.Cond.laysFinal "SplitFares$Office" "SplitFares$Office" "toldCosts" "[I") ∈ sf_TB := sf_in1 133 rfl rfl
set_option maxRecDepth 20000 in
theorem sw_135 : (Jvm.Cond.lays "SplitFares$Office" "SplitFares$Office" "checks" "I") ∈ sf_TB := sf_in1 135 rfl rfl
set_option maxRecDepth 20000 in
theorem sw_137 : (Jvm.Cond.lays "SplitFares$Office" "SplitFares$Office" "mood" "I") ∈ sf_TB := sf_in1 137 rfl rfl
set_option maxRecDepth 20000 in
theorem sw_139 : (Jvm.Cond.laysFinal "SplitFares$Office" "SplitFares$Office" "machine" "LSplitFares$Machine;") ∈ sf_TB := sf_in1 139 rfl rfl
set_option maxRecDepth 20000 in
theorem sw_142 : (Jvm.Cond.classLink "SplitFares$Desk" (18 : Nat) "SplitFares$Ways") ∈ sf_TB := sf_in1 142 rfl rfl
set_option maxRecDepth 20000 in
theorem sw_143 : (Jvm.Cond.instantiable "SplitFares$Ways" (5 : Nat)) ∈ sf_TB := sf_in1 143 rfl rfl
set_option maxRecDepth 20000 in
theorem sw_145 : (Jvm.Cond.instanceMethod ({ cls := "SplitFares$Ways", name := "<init>", desc := "()V" } : Jvm.MethodName)) ∈ sf_TB := sf_in1 145 rfl rfl
set_option maxRecDepth 20000 in
theorem sw_146 : (Jvm.Cond.code ({ cls := "SplitFares$Ways", name := "<init>", desc := "()V" } : Jvm.MethodName) prog_11_method_1_code (1 : Nat) (Option.none : Option Jvm.ClassFile.FieldType)) ∈ sf_TB := sf_in1 146 rfl rfl
set_option maxRecDepth 20000 in
theorem sw_147 : (Jvm.Cond.methodLink "SplitFares$Ways" (3 : Nat) ({ cls := "java/lang/Object", name := "<init>", desc := "()V" } : Jvm.MethodName)) ∈ sf_TB := sf_in1 147 rfl rfl
set_option maxRecDepth 20000 in
theorem sw_148 : (Jvm.Cond.fieldLink "SplitFares$Ways" (9 : Nat) "SplitFares$Ways" "legs" "[I") ∈ sf_TB := sf_in1 148 rfl rfl
set_option maxRecDepth 20000 in
theorem sw_149 : (Jvm.Cond.fieldLink "SplitFares$Ways" (15 : Nat) "SplitFares$Ways" "sorts" "[I") ∈ sf_TB := sf_in1 149 rfl rfl
set_option maxRecDepth 20000 in
theorem sw_150 : (Jvm.Cond.fieldLink "SplitFares$Ways" (18 : Nat) "SplitFares$Ways" "joint" "[I") ∈ sf_TB := sf_in1 150 rfl rfl
set_option maxRecDepth 20000 in
theorem sw_151 : (Jvm.Cond.fieldLink "SplitFares$Ways" (21 : Nat) "SplitFares$Ways" "best" "[I") ∈ sf_TB := sf_in1 151 rfl rfl
set_option maxRecDepth 20000 in
theorem sw_152 : (Jvm.Cond.fieldLink "SplitFares$Ways" (24 : Nat) "SplitFares$Ways" "bestNow" "[I") ∈ sf_TB := sf_in1 152 rfl rfl
set_option maxRecDepth 20000 in
theorem sw_153 : (Jvm.Cond.laysFinal "SplitFares$Ways" "SplitFares$Ways" "legs" "[I") ∈ sf_TB := sf_in1 153 rfl rfl
set_option maxRecDepth 20000 in
theorem sw_155 : (Jvm.Cond.laysFinal "SplitFares$Ways" "SplitFares$Ways" "sorts" "[I") ∈ sf_TB := sf_in1 155 rfl rfl
set_option maxRecDepth 20000 in
theorem sw_157 : (Jvm.Cond.laysFinal "SplitFares$Ways" "SplitFares$Ways" "joint" "[I") ∈ sf_TB := sf_in1 157 rfl rfl
set_option maxRecDepth 20000 in
theorem sw_159 : (Jvm.Cond.laysFinal "SplitFares$Ways" "SplitFares$Ways" "best" "[I") ∈ sf_TB := sf_in1 159 rfl rfl
set_option maxRecDepth 20000 in
theorem sw_161 : (Jvm.Cond.laysFinal "SplitFares$Ways" "SplitFares$Ways" "bestNow" "[I") ∈ sf_TB := sf_in1 161 rfl rfl
set_option maxRecDepth 20000 in
theorem sw_164 : (Jvm.Cond.classLink "SplitFares$Desk" (25 : Nat) "SplitFares$Log") ∈ sf_TB := sf_in1 164 rfl rfl
set_option maxRecDepth 20000 in
theorem sw_165 : (Jvm.Cond.instantiable "SplitFares$Log" (4 : Nat)) ∈ sf_TB := sf_in1 165 rfl rfl
set_option maxRecDepth 20000 in
theorem sw_166 : (Jvm.Cond.methodLink "SplitFares$Desk" (27 : Nat) ({ cls := "SplitFares$Log", name := "<init>", desc := "()V" } : Jvm.MethodName)) ∈ sf_TB := sf_in1 166 rfl rfl
set_option maxRecDepth 20000 in
theorem sw_167 : (Jvm.Cond.instanceMethod ({ cls := "SplitFares$Log", name := "<init>", desc := "()V" } : Jvm.MethodName)) ∈ sf_TB := sf_in1 167 rfl rfl
set_option maxRecDepth 20000 in
theorem sw_168 : (Jvm.Cond.code ({ cls := "SplitFares$Log", name := "<init>", desc := "()V" } : Jvm.MethodName) prog_3_method_1_code (2 : Nat) (Option.none : Option Jvm.ClassFile.FieldType)) ∈ sf_TB := sf_in1 168 rfl rfl
set_option maxRecDepth 20000 in
theorem sw_169 : (Jvm.Cond.methodLink "SplitFares$Log" (3 : Nat) ({ cls := "java/lang/Object", name := "<init>", desc := "()V" } : Jvm.MethodName)) ∈ sf_TB := sf_in1 169 rfl rfl
set_option maxRecDepth 20000 in
theorem sw_170 : (Jvm.Cond.classLink "SplitFares$Log" (9 : Nat) "SplitFares$Pocket") ∈ sf_TB := sf_in1 170 rfl rfl
set_option maxRecDepth 20000 in
theorem sw_173 : (Jvm.Cond.fieldLink "SplitFares$Log" (11 : Nat) "SplitFares$Log" "pockets" "[LSplitFares$Pocket;") ∈ sf_TB := sf_in1 173 rfl rfl
set_option maxRecDepth 20000 in
theorem sw_174 : (Jvm.Cond.fieldLink "SplitFares$Log" (17 : Nat) "SplitFares$Log" "kinds" "[I") ∈ sf_TB := sf_in1 174 rfl rfl
set_option maxRecDepth 20000 in
theorem sw_175 : (Jvm.Cond.fieldLink "SplitFares$Log" (21 : Nat) "SplitFares$Log" "first" "I") ∈ sf_TB := sf_in1 175 rfl rfl
set_option maxRecDepth 20000 in
theorem sw_176 : (Jvm.Cond.fieldLink "SplitFares$Log" (25 : Nat) "SplitFares$Log" "size" "I") ∈ sf_TB := sf_in1 176 rfl rfl
set_option maxRecDepth 20000 in
theorem sw_177 : (Jvm.Cond.fieldLink "SplitFares" (307 : Nat) "SplitFares$Log" "size" "I") ∈ sf_TB := sf_in1 177 rfl rfl
set_option maxRecDepth 20000 in
theorem sw_178 : (Jvm.Cond.laysFinal "SplitFares$Log" "SplitFares$Log" "pockets" "[LSplitFares$Pocket;") ∈ sf_TB := sf_in1 178 rfl rfl
set_option maxRecDepth 20000 in
theorem sw_180 : (Jvm.Cond.laysFinal "SplitFares$Log" "SplitFares$Log" "kinds" "[I") ∈ sf_TB := sf_in1 180 rfl rfl
set_option maxRecDepth 20000 in
theorem sw_182 : (Jvm.Cond.lays "SplitFares$Log" "SplitFares$Log" "first" "I") ∈ sf_TB := sf_in1 182 rfl rfl
set_option maxRecDepth 20000 in
theorem sw_184 : (Jvm.Cond.lays "SplitFares$Log" "SplitFares$Log" "size" "I") ∈ sf_TB := sf_in1 184 rfl rfl
set_option maxRecDepth 20000 in
theorem sw_187 : (Jvm.Cond.classLink "SplitFares$Desk" (35 : Nat) "SplitFares$Pocket") ∈ sf_TB := sf_in1 187 rfl rfl
set_option maxRecDepth 20000 in
theorem sw_189 : (Jvm.Cond.classLink "SplitFares$Desk" (42 : Nat) "SplitFares$Machine") ∈ sf_TB := sf_in1 189 rfl rfl
set_option maxRecDepth 20000 in
theorem sw_191 : (Jvm.Cond.fieldLink "SplitFares$Desk" (12 : Nat) "SplitFares$Desk" "office" "LSplitFares$Office;") ∈ sf_TB := sf_in1 191 rfl rfl
set_option maxRecDepth 20000 in
theorem sw_192 : (Jvm.Cond.fieldLink "SplitFares" (67 : Nat) "SplitFares$Desk" "office" "LSplitFares$Office;") ∈ sf_TB := sf_in1 192 rfl rfl
set_option maxRecDepth 20000 in
theorem sw_193 : (Jvm.Cond.fieldLink "SplitFares$Desk" (21 : Nat) "SplitFares$Desk" "ways" "LSplitFares$Ways;") ∈ sf_TB := sf_in1 193 rfl rfl
set_option maxRecDepth 20000 in
theorem sw_194 : (Jvm.Cond.fieldLink "SplitFares" (222 : Nat) "SplitFares$Desk" "ways" "LSplitFares$Ways;") ∈ sf_TB := sf_in1 194 rfl rfl
set_option maxRecDepth 20000 in
theorem sw_195 : (Jvm.Cond.fieldLink "SplitFares$Desk" (28 : Nat) "SplitFares$Desk" "log" "LSplitFares$Log;") ∈ sf_TB := sf_in1 195 rfl rfl
set_option maxRecDepth 20000 in
theorem sw_196 : (Jvm.Cond.fieldLink "SplitFares" (129 : Nat) "SplitFares$Desk" "log" "LSplitFares$Log;") ∈ sf_TB := sf_in1 196 rfl rfl
set_option maxRecDepth 20000 in
theorem sw_197 : (Jvm.Cond.fieldLink "SplitFares$Desk" (32 : Nat) "SplitFares$Desk" "logBefore" "LSplitFares$Log;") ∈ sf_TB := sf_in1 197 rfl rfl
set_option maxRecDepth 20000 in
theorem sw_198 : (Jvm.Cond.fieldLink "SplitFares$Desk" (38 : Nat) "SplitFares$Desk" "pocketBefore" "LSplitFares$Pocket;") ∈ sf_TB := sf_in1 198 rfl rfl
set_option maxRecDepth 20000 in
theorem sw_199 : (Jvm.Cond.fieldLink "SplitFares$Desk" (45 : Nat) "SplitFares$Desk" "machine" "LSplitFares$Machine;") ∈ sf_TB := sf_in1 199 rfl rfl
set_option maxRecDepth 20000 in
theorem sw_200 : (Jvm.Cond.fieldLink "SplitFares$Desk" (49 : Nat) "SplitFares$Desk" "done" "I") ∈ sf_TB := sf_in1 200 rfl rfl
set_option maxRecDepth 20000 in
theorem sw_201 : (Jvm.Cond.fieldLink "SplitFares" (187 : Nat) "SplitFares$Desk" "done" "I") ∈ sf_TB := sf_in1 201 rfl rfl
set_option maxRecDepth 20000 in
theorem sw_202 : (Jvm.Cond.fieldLink "SplitFares$Desk" (53 : Nat) "SplitFares$Desk" "latestRide" "I") ∈ sf_TB := sf_in1 202 rfl rfl
set_option maxRecDepth 20000 in
theorem sw_203 : (Jvm.Cond.laysFinal "SplitFares$Desk" "SplitFares$Desk" "office" "LSplitFares$Office;") ∈ sf_TB := sf_in1 203 rfl rfl
set_option maxRecDepth 20000 in
theorem sw_205 : (Jvm.Cond.laysFinal "SplitFares$Desk" "SplitFares$Desk" "ways" "LSplitFares$Ways;") ∈ sf_TB := sf_in1 205 rfl rfl
set_option maxRecDepth 20000 in
theorem sw_207 : (Jvm.Cond.laysFinal "SplitFares$Desk" "SplitFares$Desk" "log" "LSplitFares$Log;") ∈ sf_TB := sf_in1 207 rfl rfl
set_option maxRecDepth 20000 in
theorem sw_209 : (Jvm.Cond.laysFinal "SplitFares$Desk" "SplitFares$Desk" "logBefore" "LSplitFares$Log;") ∈ sf_TB := sf_in1 209 rfl rfl
set_option maxRecDepth 20000 in
theorem sw_211 : (Jvm.Cond.laysFinal "SplitFares$Desk" "SplitFares$Desk" "pocketBefore" "LSplitFares$Pocket;") ∈ sf_TB := sf_in1 211 rfl rfl
set_option maxRecDepth 20000 in
theorem sw_213 : (Jvm.Cond.laysFinal "SplitFares$Desk" "SplitFares$Desk" "machine" "LSplitFares$Machine;") ∈ sf_TB := sf_in1 213 rfl rfl
set_option maxRecDepth 20000 in
theorem sw_215 : (Jvm.Cond.lays "SplitFares$Desk" "SplitFares$Desk" "done" "I") ∈ sf_TB := sf_in1 215 rfl rfl
set_option maxRecDepth 20000 in
theorem sw_217 : (Jvm.Cond.lays "SplitFares$Desk" "SplitFares$Desk" "latestRide" "I") ∈ sf_TB := sf_in1 217 rfl rfl
set_option maxRecDepth 20000 in
theorem sw_220 : (Jvm.Cond.classLink "SplitFares" (16 : Nat) "SplitFares$Tape") ∈ sf_TB := sf_in1 220 rfl rfl
set_option maxRecDepth 20000 in
theorem sw_221 : (Jvm.Cond.instantiable "SplitFares$Tape" (2 : Nat)) ∈ sf_TB := sf_in1 221 rfl rfl
set_option maxRecDepth 20000 in
theorem sw_223 : (Jvm.Cond.instanceMethod ({ cls := "SplitFares$Tape", name := "<init>", desc := "()V" } : Jvm.MethodName)) ∈ sf_TB := sf_in1 223 rfl rfl
set_option maxRecDepth 20000 in
theorem sw_224 : (Jvm.Cond.code ({ cls := "SplitFares$Tape", name := "<init>", desc := "()V" } : Jvm.MethodName) prog_9_method_1_code (1 : Nat) (Option.none : Option Jvm.ClassFile.FieldType)) ∈ sf_TB := sf_in1 224 rfl rfl
set_option maxRecDepth 20000 in
theorem sw_225 : (Jvm.Cond.methodLink "SplitFares$Tape" (3 : Nat) ({ cls := "java/lang/Object", name := "<init>", desc := "()V" } : Jvm.MethodName)) ∈ sf_TB := sf_in1 225 rfl rfl
set_option maxRecDepth 20000 in
theorem sw_226 : (Jvm.Cond.fieldLink "SplitFares$Tape" (9 : Nat) "SplitFares$Tape" "bytes" "[I") ∈ sf_TB := sf_in1 226 rfl rfl
set_option maxRecDepth 20000 in
theorem sw_227 : (Jvm.Cond.fieldLink "SplitFares$Tape" (15 : Nat) "SplitFares$Tape" "length" "I") ∈ sf_TB := sf_in1 227 rfl rfl
set_option maxRecDepth 20000 in
theorem sw_228 : (Jvm.Cond.fieldLink "SplitFares$Tokens" (40 : Nat) "SplitFares$Tape" "length" "I") ∈ sf_TB := sf_in1 228 rfl rfl
set_option maxRecDepth 20000 in
theorem sw_229 : (Jvm.Cond.fieldLink "SplitFares" (141 : Nat) "SplitFares$Tape" "length" "I") ∈ sf_TB := sf_in1 229 rfl rfl
set_option maxRecDepth 20000 in
theorem sw_230 : (Jvm.Cond.laysFinal "SplitFares$Tape" "SplitFares$Tape" "bytes" "[I") ∈ sf_TB := sf_in1 230 rfl rfl
set_option maxRecDepth 20000 in
theorem sw_232 : (Jvm.Cond.lays "SplitFares$Tape" "SplitFares$Tape" "length" "I") ∈ sf_TB := sf_in1 232 rfl rfl
set_option maxRecDepth 20000 in
theorem sw_235 : (Jvm.Cond.classLink "SplitFares" (23 : Nat) "SplitFares$Reader") ∈ sf_TB := sf_in1 235 rfl rfl
set_option maxRecDepth 20000 in
theorem sw_236 : (Jvm.Cond.instantiable "SplitFares$Reader" (4 : Nat)) ∈ sf_TB := sf_in1 236 rfl rfl
set_option maxRecDepth 20000 in
theorem sw_238 : (Jvm.Cond.instanceMethod ({ cls := "SplitFares$Reader", name := "<init>", desc := "()V" } : Jvm.MethodName)) ∈ sf_TB := sf_in1 238 rfl rfl
set_option maxRecDepth 20000 in
theorem sw_239 : (Jvm.Cond.code ({ cls := "SplitFares$Reader", name := "<init>", desc := "()V" } : Jvm.MethodName) prog_8_method_1_code (1 : Nat) (Option.none : Option Jvm.ClassFile.FieldType)) ∈ sf_TB := sf_in1 239 rfl rfl
set_option maxRecDepth 20000 in
theorem sw_240 : (Jvm.Cond.methodLink "SplitFares$Reader" (3 : Nat) ({ cls := "java/lang/Object", name := "<init>", desc := "()V" } : Jvm.MethodName)) ∈ sf_TB := sf_in2 0 rfl rfl
set_option maxRecDepth 20000 in
theorem sw_241 : (Jvm.Cond.classLink "SplitFares$Reader" (9 : Nat) "SplitFares$Program") ∈ sf_TB := sf_in2 1 rfl rfl
set_option maxRecDepth 20000 in
theorem sw_242 : (Jvm.Cond.instantiable "SplitFares$Program" (5 : Nat)) ∈ sf_TB := sf_in2 2 rfl rfl
set_option maxRecDepth 20000 in
theorem sw_244 : (Jvm.Cond.instanceMethod ({ cls := "SplitFares$Program", name := "<init>", desc := "()V" } : Jvm.MethodName)) ∈ sf_TB := sf_in2 4 rfl rfl
set_option maxRecDepth 20000 in
theorem sw_245 : (Jvm.Cond.code ({ cls := "SplitFares$Program", name := "<init>", desc := "()V" } : Jvm.MethodName) prog_7_method_1_code (1 : Nat) (Option.none : Option Jvm.ClassFile.FieldType)) ∈ sf_TB := sf_in2 5 rfl rfl
set_option maxRecDepth 20000 in
theorem sw_246 : (Jvm.Cond.methodLink "SplitFares$Program" (3 : Nat) ({ cls := "java/lang/Object", name := "<init>", desc := "()V" } : Jvm.MethodName)) ∈ sf_TB := sf_in2 6 rfl rfl
set_option maxRecDepth 20000 in
theorem sw_247 : (Jvm.Cond.fieldLink "SplitFares$Program" (9 : Nat) "SplitFares$Program" "ops" "[I") ∈ sf_TB := sf_in2 7 rfl rfl
set_option maxRecDepth 20000 in
theorem sw_248 : (Jvm.Cond.fieldLink "SplitFares$Program" (15 : Nat) "SplitFares$Program" "args" "[I") ∈ sf_TB := sf_in2 8 rfl rfl
set_option maxRecDepth 20000 in
theorem sw_249 : (Jvm.Cond.fieldLink "SplitFares$Program" (18 : Nat) "SplitFares$Program" "clauses" "[I") ∈ sf_TB := sf_in2 9 rfl rfl
set_option maxRecDepth 20000 in
theorem sw_250 : (Jvm.Cond.fieldLink "SplitFares$Program" (21 : Nat) "SplitFares$Program" "size" "I") ∈ sf_TB := sf_in2 10 rfl rfl
set_option maxRecDepth 20000 in
theorem sw_251 : (Jvm.Cond.fieldLink "SplitFares$Program" (25 : Nat) "SplitFares$Program" "clauseCount" "I") ∈ sf_TB := sf_in2 11 rfl rfl
set_option maxRecDepth 20000 in
theorem sw_252 : (Jvm.Cond.fieldLink "SplitFares$Office" (114 : Nat) "SplitFares$Program" "clauseCount" "I") ∈ sf_TB := sf_in2 12 rfl rfl
set_option maxRecDepth 20000 in
theorem sw_253 : (Jvm.Cond.fieldLink "SplitFares" (180 : Nat) "SplitFares$Program" "clauseCount" "I") ∈ sf_TB := sf_in2 13 rfl rfl
set_option maxRecDepth 20000 in
theorem sw_254 : (Jvm.Cond.laysFinal "SplitFares$Program" "SplitFares$Program" "ops" "[I") ∈ sf_TB := sf_in2 14 rfl rfl
set_option maxRecDepth 20000 in
theorem sw_256 : (Jvm.Cond.laysFinal "SplitFares$Program" "SplitFares$Program" "args" "[I") ∈ sf_TB := sf_in2 16 rfl rfl
set_option maxRecDepth 20000 in
theorem sw_258 : (Jvm.Cond.laysFinal "SplitFares$Program" "SplitFares$Program" "clauses" "[I") ∈ sf_TB := sf_in2 18 rfl rfl
set_option maxRecDepth 20000 in
theorem sw_260 : (Jvm.Cond.lays "SplitFares$Program" "SplitFares$Program" "size" "I") ∈ sf_TB := sf_in2 20 rfl rfl
set_option maxRecDepth 20000 in
theorem sw_262 : (Jvm.Cond.lays "SplitFares$Program" "SplitFares$Program" "clauseCount" "I") ∈ sf_TB := sf_in2 22 rfl rfl
set_option maxRecDepth 20000 in
theorem sw_265 : (Jvm.Cond.classLink "SplitFares$Reader" (18 : Nat) "SplitFares$Tokens") ∈ sf_TB := sf_in2 25 rfl rfl
set_option maxRecDepth 20000 in
theorem sw_266 : (Jvm.Cond.instantiable "SplitFares$Tokens" (9 : Nat)) ∈ sf_TB := sf_in2 26 rfl rfl
set_option maxRecDepth 20000 in
theorem sw_268 : (Jvm.Cond.instanceMethod ({ cls := "SplitFares$Tokens", name := "<init>", desc := "()V" } : Jvm.MethodName)) ∈ sf_TB := sf_in2 28 rfl rfl
set_option maxRecDepth 20000 in
theorem sw_269 : (Jvm.Cond.code ({ cls := "SplitFares$Tokens", name := "<init>", desc := "()V" } : Jvm.MethodName) prog_10_method_1_code (1 : Nat) (Option.none : Option Jvm.ClassFile.FieldType)) ∈ sf_TB := sf_in2 29 rfl rfl
set_option maxRecDepth 20000 in
theorem sw_270 : (Jvm.Cond.methodLink "SplitFares$Tokens" (3 : Nat) ({ cls := "java/lang/Object", name := "<init>", desc := "()V" } : Jvm.MethodName)) ∈ sf_TB := sf_in2 30 rfl rfl
set_option maxRecDepth 20000 in
theorem sw_271 : (Jvm.Cond.fieldLink "SplitFares$Tokens" (9 : Nat) "SplitFares$Tokens" "text" "[I") ∈ sf_TB := sf_in2 31 rfl rfl
set_option maxRecDepth 20000 in
theorem sw_272 : (Jvm.Cond.fieldLink "SplitFares$Tokens" (15 : Nat) "SplitFares$Tokens" "kinds" "[I") ∈ sf_TB := sf_in2 32 rfl rfl
set_option maxRecDepth 20000 in
theorem sw_273 : (Jvm.Cond.fieldLink "SplitFares$Tokens" (18 : Nat) "SplitFares$Tokens" "starts" "[I") ∈ sf_TB := sf_in2 33 rfl rfl
set_option maxRecDepth 20000 in
theorem sw_274 : (Jvm.Cond.fieldLink "SplitFares$Tokens" (21 : Nat) "SplitFares$Tokens" "stops" "[I") ∈ sf_TB := sf_in2 34 rfl rfl
set_option maxRecDepth 20000 in
theorem sw_275 : (Jvm.Cond.fieldLink "SplitFares$Tokens" (24 : Nat) "SplitFares$Tokens" "size" "I") ∈ sf_TB := sf_in2 35 rfl rfl
set_option maxRecDepth 20000 in
theorem sw_276 : (Jvm.Cond.fieldLink "SplitFares$Tokens" (28 : Nat) "SplitFares$Tokens" "now" "I") ∈ sf_TB := sf_in2 36 rfl rfl
set_option maxRecDepth 20000 in
theorem sw_277 : (Jvm.Cond.fieldLink "SplitFares$Tokens" (31 : Nat) "SplitFares$Tokens" "kind" "I") ∈ sf_TB := sf_in2 37 rfl rfl
set_option maxRecDepth 20000 in
theorem sw_278 : (Jvm.Cond.fieldLink "SplitFares$Tokens" (34 : Nat) "SplitFares$Tokens" "start" "I") ∈ sf_TB := sf_in2 38 rfl rfl
set_option maxRecDepth 20000 in
theorem sw_279 : (Jvm.Cond.fieldLink "SplitFares$Tokens" (37 : Nat) "SplitFares$Tokens" "stop" "I") ∈ sf_TB := sf_in2 39 rfl rfl
set_option maxRecDepth 20000 in
theorem sw_280 : (Jvm.Cond.laysFinal "SplitFares$Tokens" "SplitFares$Tokens" "text" "[I") ∈ sf_TB := sf_in2 40 rfl rfl
set_option maxRecDepth 20000 in
theorem sw_282 : (Jvm.Cond.laysFinal "SplitFares$Tokens" "SplitFares$Tokens" "kinds" "[I") ∈ sf_TB := sf_in2 42 rfl rfl
set_option maxRecDepth 20000 in
theorem sw_284 : (Jvm.Cond.laysFinal "SplitFares$Tokens" "SplitFares$Tokens" "starts" "[I") ∈ sf_TB := sf_in2 44 rfl rfl
set_option maxRecDepth 20000 in
theorem sw_286 : (Jvm.Cond.laysFinal "SplitFares$Tokens" "SplitFares$Tokens" "stops" "[I") ∈ sf_TB := sf_in2 46 rfl rfl
set_option maxRecDepth 20000 in
theorem sw_288 : (Jvm.Cond.lays "SplitFares$Tokens" "SplitFares$Tokens" "size" "I") ∈ sf_TB := sf_in2 48 rfl rfl
set_option maxRecDepth 20000 in
theorem sw_290 : (Jvm.Cond.lays "SplitFares$Tokens" "SplitFares$Tokens" "now" "I") ∈ sf_TB := sf_in2 50 rfl rfl
set_option maxRecDepth 20000 in
theorem sw_292 : (Jvm.Cond.lays "SplitFares$Tokens" "SplitFares$Tokens" "kind" "I") ∈ sf_TB := sf_in2 52 rfl rfl
set_option maxRecDepth 20000 in
theorem sw_294 : (Jvm.Cond.lays "SplitFares$Tokens" "SplitFares$Tokens" "start" "I") ∈ sf_TB := sf_in2 54 rfl rfl
set_option maxRecDepth 20000 in
theorem sw_296 : (Jvm.Cond.lays "SplitFares$Tokens" "SplitFares$Tokens" "stop" "I") ∈ sf_TB := sf_in2 56 rfl rfl
set_option maxRecDepth 20000 in
theorem sw_299 : (Jvm.Cond.fieldLink "SplitFares$Reader" (12 : Nat) "SplitFares$Reader" "draft" "LSplitFares$Program;") ∈ sf_TB := sf_in2 59 rfl rfl
set_option maxRecDepth 20000 in
theorem sw_300 : (Jvm.Cond.fieldLink "SplitFares" (165 : Nat) "SplitFares$Reader" "draft" "LSplitFares$Program;") ∈ sf_TB := sf_in2 60 rfl rfl
set_option maxRecDepth 20000 in
theorem sw_301 : (Jvm.Cond.fieldLink "SplitFares$Reader" (21 : Nat) "SplitFares$Reader" "tokens" "LSplitFares$Tokens;") ∈ sf_TB := sf_in2 61 rfl rfl
set_option maxRecDepth 20000 in
theorem sw_302 : (Jvm.Cond.fieldLink "SplitFares$Reader" (25 : Nat) "SplitFares$Reader" "forOrders" "Z") ∈ sf_TB := sf_in2 62 rfl rfl
set_option maxRecDepth 20000 in
theorem sw_303 : (Jvm.Cond.fieldLink "SplitFares$Reader" (29 : Nat) "SplitFares$Reader" "parts" "I") ∈ sf_TB := sf_in2 63 rfl rfl
set_option maxRecDepth 20000 in
theorem sw_304 : (Jvm.Cond.laysFinal "SplitFares$Reader" "SplitFares$Reader" "draft" "LSplitFares$Program;") ∈ sf_TB := sf_in2 64 rfl rfl
set_option maxRecDepth 20000 in
theorem sw_306 : (Jvm.Cond.laysFinal "SplitFares$Reader" "SplitFares$Reader" "tokens" "LSplitFares$Tokens;") ∈ sf_TB := sf_in2 66 rfl rfl
set_option maxRecDepth 20000 in
theorem sw_308 : (Jvm.Cond.lays "SplitFares$Reader" "SplitFares$Reader" "forOrders" "Z") ∈ sf_TB := sf_in2 68 rfl rfl
set_option maxRecDepth 20000 in
theorem sw_310 : (Jvm.Cond.lays "SplitFares$Reader" "SplitFares$Reader" "parts" "I") ∈ sf_TB := sf_in2 70 rfl rfl
set_option maxRecDepth 20000 in
theorem sw_313 : (Jvm.Cond.classLink "SplitFares" (30 : Nat) "SplitFares$Office") ∈ sf_TB := sf_in2 73 rfl rfl
set_option maxRecDepth 20000 in
theorem sw_315 : (Jvm.Cond.fieldLink "SplitFares" (12 : Nat) "SplitFares" "desk" "LSplitFares$Desk;") ∈ sf_TB := sf_in2 75 rfl rfl
set_option maxRecDepth 20000 in
theorem sw_316 : (Jvm.Cond.fieldLink "SplitFares" (19 : Nat) "SplitFares" "tape" "LSplitFares$Tape;") ∈ sf_TB := sf_in2 76 rfl rfl
set_option maxRecDepth 20000 in
theorem sw_317 : (Jvm.Cond.fieldLink "SplitFares" (26 : Nat) "SplitFares" "reader" "LSplitFares$Reader;") ∈ sf_TB := sf_in2 77 rfl rfl
set_option maxRecDepth 20000 in
theorem sw_318 : (Jvm.Cond.fieldLink "SplitFares" (32 : Nat) "SplitFares" "images" "[LSplitFares$Office;") ∈ sf_TB := sf_in2 78 rfl rfl
set_option maxRecDepth 20000 in
theorem sw_319 : (Jvm.Cond.fieldLink "SplitFares" (36 : Nat) "SplitFares" "refusals" "[I") ∈ sf_TB := sf_in2 79 rfl rfl
set_option maxRecDepth 20000 in
theorem sw_320 : (Jvm.Cond.fieldLink "SplitFares" (40 : Nat) "SplitFares" "answers" "[I") ∈ sf_TB := sf_in2 80 rfl rfl
set_option maxRecDepth 20000 in
theorem sw_321 : (Jvm.Cond.fieldLink "SplitFares" (43 : Nat) "SplitFares" "drawnTerms" "[I") ∈ sf_TB := sf_in2 81 rfl rfl
set_option maxRecDepth 20000 in
theorem sw_322 : (Jvm.Cond.fieldLink "SplitFares" (46 : Nat) "SplitFares" "chances" "[J") ∈ sf_TB := sf_in2 82 rfl rfl
set_option maxRecDepth 20000 in
theorem sw_323 : (Jvm.Cond.fieldLink "SplitFares" (50 : Nat) "SplitFares" "anyDrawn" "Z") ∈ sf_TB := sf_in2 83 rfl rfl
set_option maxRecDepth 20000 in
theorem sw_324 : (Jvm.Cond.fieldLink "SplitFares" (54 : Nat) "SplitFares" "latestFault" "I") ∈ sf_TB := sf_in2 84 rfl rfl
set_option maxRecDepth 20000 in
theorem sw_325 : (Jvm.Cond.fieldLink "SplitFares" (58 : Nat) "SplitFares" "latestStopped" "I") ∈ sf_TB := sf_in2 85 rfl rfl
set_option maxRecDepth 20000 in
theorem sw_326 : (Jvm.Cond.fieldLink "SplitFares" (61 : Nat) "SplitFares" "latestDelays" "I") ∈ sf_TB := sf_in2 86 rfl rfl
set_option maxRecDepth 20000 in
theorem sw_327 : (Jvm.Cond.fieldLink "SplitFares" (64 : Nat) "SplitFares" "latestStatus" "I") ∈ sf_TB := sf_in2 87 rfl rfl
set_option maxRecDepth 20000 in
theorem sw_328 : (Jvm.Cond.laysFinal "SplitFares" "SplitFares" "desk" "LSplitFares$Desk;") ∈ sf_TB := sf_in2 88 rfl rfl
set_option maxRecDepth 20000 in
theorem sw_330 : (Jvm.Cond.laysFinal "SplitFares" "SplitFares" "tape" "LSplitFares$Tape;") ∈ sf_TB := sf_in2 90 rfl rfl
set_option maxRecDepth 20000 in
theorem sw_332 : (Jvm.Cond.laysFinal "SplitFares" "SplitFares" "reader" "LSplitFares$Reader;") ∈ sf_TB := sf_in2 92 rfl rfl
set_option maxRecDepth 20000 in
theorem sw_334 : (Jvm.Cond.laysFinal "SplitFares" "SplitFares" "images" "[LSplitFares$Office;") ∈ sf_TB := sf_in2 94 rfl rfl
set_option maxRecDepth 20000 in
theorem sw_336 : (Jvm.Cond.laysFinal "SplitFares" "SplitFares" "refusals" "[I") ∈ sf_TB := sf_in2 96 rfl rfl
set_option maxRecDepth 20000 in
theorem sw_338 : (Jvm.Cond.laysFinal "SplitFares" "SplitFares" "answers" "[I") ∈ sf_TB := sf_in2 98 rfl rfl
set_option maxRecDepth 20000 in
theorem sw_340 : (Jvm.Cond.laysFinal "SplitFares" "SplitFares" "drawnTerms" "[I") ∈ sf_TB := sf_in2 100 rfl rfl
set_option maxRecDepth 20000 in
theorem sw_342 : (Jvm.Cond.laysFinal "SplitFares" "SplitFares" "chances" "[J") ∈ sf_TB := sf_in2 102 rfl rfl
set_option maxRecDepth 20000 in
theorem sw_344 : (Jvm.Cond.lays "SplitFares" "SplitFares" "anyDrawn" "Z") ∈ sf_TB := sf_in2 104 rfl rfl
set_option maxRecDepth 20000 in
theorem sw_346 : (Jvm.Cond.lays "SplitFares" "SplitFares" "latestFault" "I") ∈ sf_TB := sf_in2 106 rfl rfl
set_option maxRecDepth 20000 in
theorem sw_348 : (Jvm.Cond.lays "SplitFares" "SplitFares" "latestStopped" "I") ∈ sf_TB := sf_in2 108 rfl rfl
set_option maxRecDepth 20000 in
theorem sw_350 : (Jvm.Cond.lays "SplitFares" "SplitFares" "latestDelays" "I") ∈ sf_TB := sf_in2 110 rfl rfl
set_option maxRecDepth 20000 in
theorem sw_352 : (Jvm.Cond.lays "SplitFares" "SplitFares" "latestStatus" "I") ∈ sf_TB := sf_in2 112 rfl rfl
set_option maxRecDepth 20000 in
theorem sw_355 : (Jvm.Cond.arrayClass Jvm.ClassFile.FieldType.long) ∈ sf_TB := sf_in2 115 rfl rfl
set_option maxRecDepth 20000 in
theorem sw_356 : (Jvm.Cond.methodLink "SplitFaresLaw" (13 : Nat) ({ cls := "SplitFares", name := "train", desc := "(III)I" } : Jvm.MethodName)) ∈ sf_TB := sf_in2 116 rfl rfl
set_option maxRecDepth 20000 in
theorem sw_357 : (Jvm.Cond.instanceMethod ({ cls := "SplitFares", name := "train", desc := "(III)I" } : Jvm.MethodName)) ∈ sf_TB := sf_in2 117 rfl rfl
set_option maxRecDepth 20000 in
theorem sw_358 : (Jvm.Cond.selects "SplitFares" ({ cls := "SplitFares", name := "train", desc := "(III)I" } : Jvm.MethodName) ({ cls := "SplitFares", name := "train", desc := "(III)I" } : Jvm.MethodName)) ∈ sf_TB := sf_in2 118 rfl rfl
set_option maxRecDepth 20000 in
theorem sw_359 : (Jvm.Cond.code ({ cls := "SplitFares", name := "train", desc := "(III)I" } : Jvm.MethodName) prog_1_method_2_code (4 : Nat) (Option.some Jvm.ClassFile.FieldType.int)) ∈ sf_TB := sf_in2 119 rfl rfl
set_option maxRecDepth 20000 in
theorem sw_360 : (Jvm.Cond.methodLink "SplitFares" (71 : Nat) ({ cls := "SplitFares$Office", name := "addTrain", desc := "(III)I" } : Jvm.MethodName)) ∈ sf_TB := sf_in2 120 rfl rfl
set_option maxRecDepth 20000 in
theorem sw_361 : (Jvm.Cond.instanceMethod ({ cls := "SplitFares$Office", name := "addTrain", desc := "(III)I" } : Jvm.MethodName)) ∈ sf_TB := sf_in2 121 rfl rfl
set_option maxRecDepth 20000 in
theorem sw_362 : (Jvm.Cond.selects "SplitFares$Office" ({ cls := "SplitFares$Office", name := "addTrain", desc := "(III)I" } : Jvm.MethodName) ({ cls := "SplitFares$Office", name := "addTrain", desc := "(III)I" } : Jvm.MethodName)) ∈ sf_TB := sf_in2 122 rfl rfl
set_option maxRecDepth 20000 in
theorem sw_363 : (Jvm.Cond.code ({ cls := "SplitFares$Office", name := "addTrain", desc := "(III)I" } : Jvm.MethodName) prog_5_method_4_code (5 : Nat) (Option.some Jvm.ClassFile.FieldType.int)) ∈ sf_TB := sf_in2 123 rfl rfl
set_option maxRecDepth 20000 in
theorem sw_364 : (Jvm.Cond.methodLink "SplitFares$Office" (76 : Nat) ({ cls := "java/lang/Integer", name := "bitCount", desc := "(I)I" } : Jvm.MethodName)) ∈ sf_TB := sf_in2 124 rfl rfl
set_option maxRecDepth 20000 in
theorem sw_365 : (Jvm.Cond.static ({ cls := "java/lang/Integer", name := "bitCount", desc := "(I)I" } : Jvm.MethodName)) ∈ sf_TB := sf_in2 125 rfl rfl
set_option maxRecDepth 20000 in
theorem sw_366 : (Jvm.Cond.code ({ cls := "java/lang/Integer", name := "bitCount", desc := "(I)I" } : Jvm.MethodName) prog_14_method_49_code (1 : Nat) (Option.some Jvm.ClassFile.FieldType.int)) ∈ sf_TB := sf_in2 126 rfl rfl
set_option maxRecDepth 20000 in
theorem sw_367 : (Jvm.Cond.constant "java/lang/Integer" (265 : Nat) (1431655765 : Int32)) ∈ sf_TB := sf_in2 127 rfl rfl
set_option maxRecDepth 20000 in
theorem sw_368 : (Jvm.Cond.constant "java/lang/Integer" (266 : Nat) (858993459 : Int32)) ∈ sf_TB := sf_in2 128 rfl rfl
set_option maxRecDepth 20000 in
theorem sw_369 : (Jvm.Cond.constant "java/lang/Integer" (267 : Nat) (252645135 : Int32)) ∈ sf_TB := sf_in2 129 rfl rfl
set_option maxRecDepth 20000 in
theorem sw_370 : (Jvm.Cond.methodLink "SplitFares" (75 : Nat) ({ cls := "SplitFares", name := "answered", desc := "(I)I" } : Jvm.MethodName)) ∈ sf_TB := sf_in2 130 rfl rfl
set_option maxRecDepth 20000 in
theorem sw_372 : (Jvm.Cond.instanceMethod ({ cls := "SplitFares", name := "answered", desc := "(I)I" } : Jvm.MethodName)) ∈ sf_TB := sf_in2 132 rfl rfl
set_option maxRecDepth 20000 in
theorem sw_373 : (Jvm.Cond.code ({ cls := "SplitFares", name := "answered", desc := "(I)I" } : Jvm.MethodName) prog_1_method_49_code (2 : Nat) (Option.some Jvm.ClassFile.FieldType.int)) ∈ sf_TB := sf_in2 133 rfl rfl
set_option maxRecDepth 20000 in
theorem sw_374 : (Jvm.Cond.methodLink "SplitFares" (119 : Nat) ({ cls := "SplitFares", name := "refused", desc := "(I)I" } : Jvm.MethodName)) ∈ sf_TB := sf_in2 134 rfl rfl
set_option maxRecDepth 20000 in
theorem sw_376 : (Jvm.Cond.instanceMethod ({ cls := "SplitFares", name := "refused", desc := "(I)I" } : Jvm.MethodName)) ∈ sf_TB := sf_in2 136 rfl rfl
set_option maxRecDepth 20000 in
theorem sw_377 : (Jvm.Cond.code ({ cls := "SplitFares", name := "refused", desc := "(I)I" } : Jvm.MethodName) prog_1_method_48_code (2 : Nat) (Option.some Jvm.ClassFile.FieldType.int)) ∈ sf_TB := sf_in2 137 rfl rfl
set_option maxRecDepth 20000 in
theorem sw_378 : (Jvm.Cond.methodLink "SplitFares" (138 : Nat) ({ cls := "SplitFares", name := "accepted", desc := "(I)I" } : Jvm.MethodName)) ∈ sf_TB := sf_in2 138 rfl rfl
set_option maxRecDepth 20000 in
theorem sw_380 : (Jvm.Cond.instanceMethod ({ cls := "SplitFares", name := "accepted", desc := "(I)I" } : Jvm.MethodName)) ∈ sf_TB := sf_in2 140 rfl rfl
set_option maxRecDepth 20000 in
theorem sw_381 : (Jvm.Cond.code ({ cls := "SplitFares", name := "accepted", desc := "(I)I" } : Jvm.MethodName) prog_1_method_47_code (2 : Nat) (Option.some Jvm.ClassFile.FieldType.int)) ∈ sf_TB := sf_in2 141 rfl rfl
set_option maxRecDepth 20000 in
theorem sw_382 : (Jvm.Cond.methodLink "SplitFaresLaw" (18 : Nat) ({ cls := "SplitFares", name := "of", desc := "(II)I" } : Jvm.MethodName)) ∈ sf_TB := sf_in2 142 rfl rfl
set_option maxRecDepth 20000 in
theorem sw_383 : (Jvm.Cond.instanceMethod ({ cls := "SplitFares", name := "of", desc := "(II)I" } : Jvm.MethodName)) ∈ sf_TB := sf_in2 143 rfl rfl
set_option maxRecDepth 20000 in
theorem sw_384 : (Jvm.Cond.selects "SplitFares" ({ cls := "SplitFares", name := "of", desc := "(II)I" } : Jvm.MethodName) ({ cls := "SplitFares", name := "of", desc := "(II)I" } : Jvm.MethodName)) ∈ sf_TB := sf_in2 144 rfl rfl
set_option maxRecDepth 20000 in
theorem sw_385 : (Jvm.Cond.code ({ cls := "SplitFares", name := "of", desc := "(II)I" } : Jvm.MethodName) prog_1_method_3_code (4 : Nat) (Option.some Jvm.ClassFile.FieldType.int)) ∈ sf_TB := sf_in2 145 rfl rfl
set_option maxRecDepth 20000 in
theorem sw_386 : (Jvm.Cond.methodLink "SplitFares" (79 : Nat) ({ cls := "SplitFares$Office", name := "hasTrain", desc := "(I)Z" } : Jvm.MethodName)) ∈ sf_TB := sf_in2 146 rfl rfl
set_option maxRecDepth 20000 in
theorem sw_387 : (Jvm.Cond.instanceMethod ({ cls := "SplitFares$Office", name := "hasTrain", desc := "(I)Z" } : Jvm.MethodName)) ∈ sf_TB := sf_in2 147 rfl rfl
set_option maxRecDepth 20000 in
theorem sw_388 : (Jvm.Cond.selects "SplitFares$Office" ({ cls := "SplitFares$Office", name := "hasTrain", desc := "(I)Z" } : Jvm.MethodName) ({ cls := "SplitFares$Office", name := "hasTrain", desc := "(I)Z" } : Jvm.MethodName)) ∈ sf_TB := sf_in2 148 rfl rfl
set_option maxRecDepth 20000 in
theorem sw_389 : (Jvm.Cond.code ({ cls := "SplitFares$Office", name := "hasTrain", desc := "(I)Z" } : Jvm.MethodName) prog_5_method_3_code (2 : Nat) (Option.some Jvm.ClassFile.FieldType.boolean)) ∈ sf_TB := sf_in2 149 rfl rfl
set_option maxRecDepth 20000 in
theorem sw_390 : (Jvm.Cond.methodLink "SplitFaresLaw" (23 : Nat) ({ cls := "SplitFares", name := "price", desc := "(III)I" } : Jvm.MethodName)) ∈ sf_TB := sf_in2 150 rfl rfl
set_option maxRecDepth 20000 in
theorem sw_391 : (Jvm.Cond.instanceMethod ({ cls := "SplitFares", name := "price", desc := "(III)I" } : Jvm.MethodName)) ∈ sf_TB := sf_in2 151 rfl rfl
set_option maxRecDepth 20000 in
theorem sw_392 : (Jvm.Cond.selects "SplitFares" ({ cls := "SplitFares", name := "price", desc := "(III)I" } : Jvm.MethodName) ({ cls := "SplitFares", name := "price", desc := "(III)I" } : Jvm.MethodName)) ∈ sf_TB := sf_in2 152 rfl rfl
set_option maxRecDepth 20000 in
theorem sw_393 : (Jvm.Cond.code ({ cls := "SplitFares", name := "price", desc := "(III)I" } : Jvm.MethodName) prog_1_method_4_code (4 : Nat) (Option.some Jvm.ClassFile.FieldType.int)) ∈ sf_TB := sf_in2 153 rfl rfl
set_option maxRecDepth 20000 in
theorem sw_394 : (Jvm.Cond.methodLink "SplitFares" (92 : Nat) ({ cls := "SplitFares", name := "isBought", desc := "(III)Z" } : Jvm.MethodName)) ∈ sf_TB := sf_in2 154 rfl rfl
set_option maxRecDepth 20000 in
theorem sw_395 : (Jvm.Cond.static ({ cls := "SplitFares", name := "isBought", desc := "(III)Z" } : Jvm.MethodName)) ∈ sf_TB := sf_in2 155 rfl rfl
set_option maxRecDepth 20000 in
theorem sw_396 : (Jvm.Cond.code ({ cls := "SplitFares", name := "isBought", desc := "(III)Z" } : Jvm.MethodName) prog_1_method_46_code (3 : Nat) (Option.some Jvm.ClassFile.FieldType.boolean)) ∈ sf_TB := sf_in2 156 rfl rfl
set_option maxRecDepth 20000 in
theorem sw_397 : (Jvm.Cond.methodLink "SplitFares" (103 : Nat) ({ cls := "SplitFares", name := "isLeg", desc := "(II)Z" } : Jvm.MethodName)) ∈ sf_TB := sf_in2 157 rfl rfl
set_option maxRecDepth 20000 in
theorem sw_398 : (Jvm.Cond.static ({ cls := "SplitFares", name := "isLeg", desc := "(II)Z" } : Jvm.MethodName)) ∈ sf_TB := sf_in2 158 rfl rfl
set_option maxRecDepth 20000 in
theorem sw_399 : (Jvm.Cond.code ({ cls := "SplitFares", name := "isLeg", desc := "(II)Z" } : Jvm.MethodName) prog_1_method_45_code (2 : Nat) (Option.some Jvm.ClassFile.FieldType.boolean)) ∈ sf_TB := sf_in2 159 rfl rfl
set_option maxRecDepth 20000 in
theorem sw_400 : (Jvm.Cond.methodLink "SplitFares" (310 : Nat) ({ cls := "SplitFares", name := "isStation", desc := "(I)Z" } : Jvm.MethodName)) ∈ sf_TB := sf_in2 160 rfl rfl
set_option maxRecDepth 20000 in
theorem sw_401 : (Jvm.Cond.static ({ cls := "SplitFares", name := "isStation", desc := "(I)Z" } : Jvm.MethodName)) ∈ sf_TB := sf_in2 161 rfl rfl
set_option maxRecDepth 20000 in
theorem sw_402 : (Jvm.Cond.code ({ cls := "SplitFares", name := "isStation", desc := "(I)Z" } : Jvm.MethodName) prog_1_method_44_code (1 : Nat) (Option.some Jvm.ClassFile.FieldType.boolean)) ∈ sf_TB := sf_in2 162 rfl rfl
set_option maxRecDepth 20000 in
theorem sw_403 : (Jvm.Cond.methodLink "SplitFares" (96 : Nat) ({ cls := "SplitFares$Office", name := "costOf", desc := "(III)I" } : Jvm.MethodName)) ∈ sf_TB := sf_in2 163 rfl rfl
set_option maxRecDepth 20000 in
theorem sw_404 : (Jvm.Cond.instanceMethod ({ cls := "SplitFares$Office", name := "costOf", desc := "(III)I" } : Jvm.MethodName)) ∈ sf_TB := sf_in2 164 rfl rfl
set_option maxRecDepth 20000 in
theorem sw_405 : (Jvm.Cond.selects "SplitFares$Office" ({ cls := "SplitFares$Office", name := "costOf", desc := "(III)I" } : Jvm.MethodName) ({ cls := "SplitFares$Office", name := "costOf", desc := "(III)I" } : Jvm.MethodName)) ∈ sf_TB := sf_in2 165 rfl rfl
set_option maxRecDepth 20000 in
theorem sw_406 : (Jvm.Cond.code ({ cls := "SplitFares$Office", name := "costOf", desc := "(III)I" } : Jvm.MethodName) prog_5_method_11_code (4 : Nat) (Option.some Jvm.ClassFile.FieldType.int)) ∈ sf_TB := sf_in2 166 rfl rfl
set_option maxRecDepth 20000 in
theorem sw_407 : (Jvm.Cond.methodLink "SplitFares$Office" (97 : Nat) ({ cls := "SplitFares$Office", name := "lawOf", desc := "(I)LSplitFares$Program;" } : Jvm.MethodName)) ∈ sf_TB := sf_in2 167 rfl rfl
set_option maxRecDepth 20000 in
theorem sw_408 : (Jvm.Cond.instanceMethod ({ cls := "SplitFares$Office", name := "lawOf", desc := "(I)LSplitFares$Program;" } : Jvm.MethodName)) ∈ sf_TB := sf_in2 168 rfl rfl
set_option maxRecDepth 20000 in
theorem sw_409 : (Jvm.Cond.selects "SplitFares$Office" ({ cls := "SplitFares$Office", name := "lawOf", desc := "(I)LSplitFares$Program;" } : Jvm.MethodName) ({ cls := "SplitFares$Office", name := "lawOf", desc := "(I)LSplitFares$Program;" } : Jvm.MethodName)) ∈ sf_TB := sf_in2 169 rfl rfl
set_option maxRecDepth 20000 in
theorem sw_410 : (Jvm.Cond.code ({ cls := "SplitFares$Office", name := "lawOf", desc := "(I)LSplitFares$Program;" } : Jvm.MethodName) prog_5_method_9_code (2 : Nat) (Option.some (Jvm.ClassFile.FieldType.object "SplitFares$Program"))) ∈ sf_TB := sf_in2 170 rfl rfl
set_option maxRecDepth 20000 in
theorem sw_411 : (Jvm.Cond.methodLink "SplitFares$Office" (101 : Nat) ({ cls := "SplitFares$Office", name := "costBy", desc := "(LSplitFares$Program;III)I" } : Jvm.MethodName)) ∈ sf_TB := sf_in2 171 rfl rfl
set_option maxRecDepth 20000 in
theorem sw_412 : (Jvm.Cond.instanceMethod ({ cls := "SplitFares$Office", name := "costBy", desc := "(LSplitFares$Program;III)I" } : Jvm.MethodName)) ∈ sf_TB := sf_in2 172 rfl rfl
set_option maxRecDepth 20000 in
theorem sw_413 : (Jvm.Cond.selects "SplitFares$Office" ({ cls := "SplitFares$Office", name := "costBy", desc := "(LSplitFares$Program;III)I" } : Jvm.MethodName) ({ cls := "SplitFares$Office", name := "costBy", desc := "(LSplitFares$Program;III)I" } : Jvm.MethodName)) ∈ sf_TB := sf_in2 173 rfl rfl
set_option maxRecDepth 20000 in
theorem sw_414 : (Jvm.Cond.code ({ cls := "SplitFares$Office", name := "costBy", desc := "(LSplitFares$Program;III)I" } : Jvm.MethodName) prog_5_method_12_code (8 : Nat) (Option.some Jvm.ClassFile.FieldType.int)) ∈ sf_TB := sf_in2 174 rfl rfl
set_option maxRecDepth 20000 in
theorem sw_415 : (Jvm.Cond.methodLink "SplitFares$Office" (105 : Nat) ({ cls := "java/lang/Math", name := "abs", desc := "(I)I" } : Jvm.MethodName)) ∈ sf_TB := sf_in2 175 rfl rfl
set_option maxRecDepth 20000 in
theorem sw_416 : (Jvm.Cond.static ({ cls := "java/lang/Math", name := "abs", desc := "(I)I" } : Jvm.MethodName)) ∈ sf_TB := sf_in2 176 rfl rfl
set_option maxRecDepth 20000 in
theorem sw_417 : (Jvm.Cond.code ({ cls := "java/lang/Math", name := "abs", desc := "(I)I" } : Jvm.MethodName) prog_15_method_59_code (1 : Nat) (Option.some Jvm.ClassFile.FieldType.int)) ∈ sf_TB := sf_in2 177 rfl rfl
set_option maxRecDepth 20000 in
theorem sw_418 : (Jvm.Cond.methodLink "SplitFares$Office" (110 : Nat) ({ cls := "SplitFares$Office", name := "tellWords", desc := "(IIII)V" } : Jvm.MethodName)) ∈ sf_TB := sf_in2 178 rfl rfl
set_option maxRecDepth 20000 in
theorem sw_420 : (Jvm.Cond.instanceMethod ({ cls := "SplitFares$Office", name := "tellWords", desc := "(IIII)V" } : Jvm.MethodName)) ∈ sf_TB := sf_in2 180 rfl rfl
set_option maxRecDepth 20000 in
theorem sw_421 : (Jvm.Cond.code ({ cls := "SplitFares$Office", name := "tellWords", desc := "(IIII)V" } : Jvm.MethodName) prog_5_method_14_code (6 : Nat) (Option.none : Option Jvm.ClassFile.FieldType)) ∈ sf_TB := sf_in2 181 rfl rfl
set_option maxRecDepth 20000 in
theorem sw_422 : (Jvm.Cond.methodLink "SplitFares$Office" (117 : Nat) ({ cls := "SplitFares$Program", name := "noted", desc := "(II)I" } : Jvm.MethodName)) ∈ sf_TB := sf_in2 182 rfl rfl
set_option maxRecDepth 20000 in
theorem sw_423 : (Jvm.Cond.instanceMethod ({ cls := "SplitFares$Program", name := "noted", desc := "(II)I" } : Jvm.MethodName)) ∈ sf_TB := sf_in2 183 rfl rfl
set_option maxRecDepth 20000 in
theorem sw_424 : (Jvm.Cond.selects "SplitFares$Program" ({ cls := "SplitFares$Program", name := "noted", desc := "(II)I" } : Jvm.MethodName) ({ cls := "SplitFares$Program", name := "noted", desc := "(II)I" } : Jvm.MethodName)) ∈ sf_TB := sf_in2 184 rfl rfl
set_option maxRecDepth 20000 in
theorem sw_425 : (Jvm.Cond.code ({ cls := "SplitFares$Program", name := "noted", desc := "(II)I" } : Jvm.MethodName) prog_7_method_8_code (4 : Nat) (Option.some Jvm.ClassFile.FieldType.int)) ∈ sf_TB := sf_in2 185 rfl rfl
set_option maxRecDepth 20000 in
theorem sw_426 : (Jvm.Cond.methodLink "SplitFares$Office" (121 : Nat) ({ cls := "SplitFares$Machine", name := "evaluate", desc := "(LSplitFares$Program;II)I" } : Jvm.MethodName)) ∈ sf_TB := sf_in2 186 rfl rfl
set_option maxRecDepth 20000 in
theorem sw_427 : (Jvm.Cond.instanceMethod ({ cls := "SplitFares$Machine", name := "evaluate", desc := "(LSplitFares$Program;II)I" } : Jvm.MethodName)) ∈ sf_TB := sf_in2 187 rfl rfl
set_option maxRecDepth 20000 in
theorem sw_428 : (Jvm.Cond.selects "SplitFares$Machine" ({ cls := "SplitFares$Machine", name := "evaluate", desc := "(LSplitFares$Program;II)I" } : Jvm.MethodName) ({ cls := "SplitFares$Machine", name := "evaluate", desc := "(LSplitFares$Program;II)I" } : Jvm.MethodName)) ∈ sf_TB := sf_in2 188 rfl rfl
set_option maxRecDepth 20000 in
theorem sw_429 : (Jvm.Cond.code ({ cls := "SplitFares$Machine", name := "evaluate", desc := "(LSplitFares$Program;II)I" } : Jvm.MethodName) prog_4_method_2_code (11 : Nat) (Option.some Jvm.ClassFile.FieldType.int)) ∈ sf_TB := sf_in2 189 rfl rfl
set_option maxRecDepth 20000 in
theorem sw_430 : (Jvm.Cond.methodLink "SplitFares$Machine" (18 : Nat) ({ cls := "SplitFares$Program", name := "noted", desc := "(II)I" } : Jvm.MethodName)) ∈ sf_TB := sf_in2 190 rfl rfl
set_option maxRecDepth 20000 in
theorem sw_431 : (Jvm.Cond.methodLink "SplitFares$Machine" (24 : Nat) ({ cls := "java/lang/Math", name := "min", desc := "(II)I" } : Jvm.MethodName)) ∈ sf_TB := sf_in2 191 rfl rfl
set_option maxRecDepth 20000 in
theorem sw_432 : (Jvm.Cond.static ({ cls := "java/lang/Math", name := "min", desc := "(II)I" } : Jvm.MethodName)) ∈ sf_TB := sf_in2 192 rfl rfl
set_option maxRecDepth 20000 in
theorem sw_433 : (Jvm.Cond.code ({ cls := "java/lang/Math", name := "min", desc := "(II)I" } : Jvm.MethodName) prog_15_method_69_code (2 : Nat) (Option.some Jvm.ClassFile.FieldType.int)) ∈ sf_TB := sf_in2 193 rfl rfl
set_option maxRecDepth 20000 in
theorem sw_434 : (Jvm.Cond.methodLink "SplitFares$Machine" (29 : Nat) ({ cls := "SplitFares$Program", name := "opAt", desc := "(I)I" } : Jvm.MethodName)) ∈ sf_TB := sf_in2 194 rfl rfl
set_option maxRecDepth 20000 in
theorem sw_435 : (Jvm.Cond.instanceMethod ({ cls := "SplitFares$Program", name := "opAt", desc := "(I)I" } : Jvm.MethodName)) ∈ sf_TB := sf_in2 195 rfl rfl
set_option maxRecDepth 20000 in
theorem sw_436 : (Jvm.Cond.selects "SplitFares$Program" ({ cls := "SplitFares$Program", name := "opAt", desc := "(I)I" } : Jvm.MethodName) ({ cls := "SplitFares$Program", name := "opAt", desc := "(I)I" } : Jvm.MethodName)) ∈ sf_TB := sf_in2 196 rfl rfl
set_option maxRecDepth 20000 in
theorem sw_437 : (Jvm.Cond.code ({ cls := "SplitFares$Program", name := "opAt", desc := "(I)I" } : Jvm.MethodName) prog_7_method_11_code (2 : Nat) (Option.some Jvm.ClassFile.FieldType.int)) ∈ sf_TB := sf_in2 197 rfl rfl
set_option maxRecDepth 20000 in
theorem sw_438 : (Jvm.Cond.methodLink "SplitFares$Machine" (33 : Nat) ({ cls := "SplitFares$Program", name := "argAt", desc := "(I)I" } : Jvm.MethodName)) ∈ sf_TB := sf_in2 198 rfl rfl
set_option maxRecDepth 20000 in
theorem sw_439 : (Jvm.Cond.instanceMethod ({ cls := "SplitFares$Program", name := "argAt", desc := "(I)I" } : Jvm.MethodName)) ∈ sf_TB := sf_in2 199 rfl rfl
set_option maxRecDepth 20000 in
theorem sw_440 : (Jvm.Cond.selects "SplitFares$Program" ({ cls := "SplitFares$Program", name := "argAt", desc := "(I)I" } : Jvm.MethodName) ({ cls := "SplitFares$Program", name := "argAt", desc := "(I)I" } : Jvm.MethodName)) ∈ sf_TB := sf_in2 200 rfl rfl
set_option maxRecDepth 20000 in
theorem sw_441 : (Jvm.Cond.code ({ cls := "SplitFares$Program", name := "argAt", desc := "(I)I" } : Jvm.MethodName) prog_7_method_12_code (2 : Nat) (Option.some Jvm.ClassFile.FieldType.int)) ∈ sf_TB := sf_in2 201 rfl rfl
set_option maxRecDepth 20000 in
theorem sw_442 : (Jvm.Cond.constant "SplitFares$Machine" (36 : Nat) (-2000000000 : Int32)) ∈ sf_TB := sf_in2 202 rfl rfl
set_option maxRecDepth 20000 in
theorem sw_443 : (Jvm.Cond.methodLink "SplitFares$Machine" (37 : Nat) ({ cls := "SplitFares$Machine", name := "wordAt", desc := "(I)I" } : Jvm.MethodName)) ∈ sf_TB := sf_in2 203 rfl rfl
set_option maxRecDepth 20000 in
theorem sw_445 : (Jvm.Cond.instanceMethod ({ cls := "SplitFares$Machine", name := "wordAt", desc := "(I)I" } : Jvm.MethodName)) ∈ sf_TB := sf_in2 205 rfl rfl
set_option maxRecDepth 20000 in
theorem sw_446 : (Jvm.Cond.code ({ cls := "SplitFares$Machine", name := "wordAt", desc := "(I)I" } : Jvm.MethodName) prog_4_method_3_code (2 : Nat) (Option.some Jvm.ClassFile.FieldType.int)) ∈ sf_TB := sf_in2 206 rfl rfl
set_option maxRecDepth 20000 in
theorem sw_447 : (Jvm.Cond.methodLink "SplitFares$Machine" (40 : Nat) ({ cls := "java/lang/Math", name := "max", desc := "(II)I" } : Jvm.MethodName)) ∈ sf_TB := sf_in2 207 rfl rfl
set_option maxRecDepth 20000 in
theorem sw_448 : (Jvm.Cond.static ({ cls := "java/lang/Math", name := "max", desc := "(II)I" } : Jvm.MethodName)) ∈ sf_TB := sf_in2 208 rfl rfl
set_option maxRecDepth 20000 in
theorem sw_449 : (Jvm.Cond.code ({ cls := "java/lang/Math", name := "max", desc := "(II)I" } : Jvm.MethodName) prog_15_method_65_code (2 : Nat) (Option.some Jvm.ClassFile.FieldType.int)) ∈ sf_TB := sf_in2 209 rfl rfl
set_option maxRecDepth 20000 in
theorem sw_450 : (Jvm.Cond.methodLink "SplitFares$Machine" (43 : Nat) ({ cls := "SplitFares$Machine", name := "joined", desc := "(IJJ)J" } : Jvm.MethodName)) ∈ sf_TB := sf_in2 210 rfl rfl
set_option maxRecDepth 20000 in
theorem sw_451 : (Jvm.Cond.static ({ cls := "SplitFares$Machine", name := "joined", desc := "(IJJ)J" } : Jvm.MethodName)) ∈ sf_TB := sf_in2 211 rfl rfl
set_option maxRecDepth 20000 in
theorem sw_452 : (Jvm.Cond.code ({ cls := "SplitFares$Machine", name := "joined", desc := "(IJJ)J" } : Jvm.MethodName) prog_4_method_4_code (5 : Nat) (Option.some Jvm.ClassFile.FieldType.long)) ∈ sf_TB := sf_in2 212 rfl rfl
set_option maxRecDepth 20000 in
theorem sw_453 : (Jvm.Cond.constantLong "SplitFares$Machine" (51 : Nat) (2000000000 : Int64)) ∈ sf_TB := sf_in2 213 rfl rfl
set_option maxRecDepth 20000 in
theorem sw_454 : (Jvm.Cond.constantLong "SplitFares$Machine" (47 : Nat) (1000000000 : Int64)) ∈ sf_TB := sf_in2 214 rfl rfl
set_option maxRecDepth 20000 in
theorem sw_455 : (Jvm.Cond.constantLong "SplitFares$Machine" (49 : Nat) (-1000000000 : Int64)) ∈ sf_TB := sf_in2 215 rfl rfl
set_option maxRecDepth 20000 in
theorem sw_456 : (Jvm.Cond.constant "SplitFares$Office" (125 : Nat) (-2000000000 : Int32)) ∈ sf_TB := sf_in2 216 rfl rfl
set_option maxRecDepth 20000 in
theorem sw_457 : (Jvm.Cond.methodLink "SplitFares$Office" (126 : Nat) ({ cls := "java/lang/Math", name := "min", desc := "(II)I" } : Jvm.MethodName)) ∈ sf_TB := sf_in2 217 rfl rfl
set_option maxRecDepth 20000 in
theorem sw_458 : (Jvm.Cond.methodLink "SplitFares$Office" (129 : Nat) ({ cls := "java/lang/Math", name := "max", desc := "(II)I" } : Jvm.MethodName)) ∈ sf_TB := sf_in2 218 rfl rfl
set_option maxRecDepth 20000 in
theorem sw_459 : (Jvm.Cond.methodLink "SplitFaresLaw" (27 : Nat) ({ cls := "SplitFares", name := "isBarred", desc := "(IIII)I" } : Jvm.MethodName)) ∈ sf_TB := sf_in2 219 rfl rfl
set_option maxRecDepth 20000 in
theorem sw_460 : (Jvm.Cond.instanceMethod ({ cls := "SplitFares", name := "isBarred", desc := "(IIII)I" } : Jvm.MethodName)) ∈ sf_TB := sf_in2 220 rfl rfl
set_option maxRecDepth 20000 in
theorem sw_461 : (Jvm.Cond.selects "SplitFares" ({ cls := "SplitFares", name := "isBarred", desc := "(IIII)I" } : Jvm.MethodName) ({ cls := "SplitFares", name := "isBarred", desc := "(IIII)I" } : Jvm.MethodName)) ∈ sf_TB := sf_in2 221 rfl rfl
set_option maxRecDepth 20000 in
theorem sw_462 : (Jvm.Cond.code ({ cls := "SplitFares", name := "isBarred", desc := "(IIII)I" } : Jvm.MethodName) prog_1_method_5_code (5 : Nat) (Option.some Jvm.ClassFile.FieldType.int)) ∈ sf_TB := sf_in2 222 rfl rfl
set_option maxRecDepth 20000 in
theorem sw_463 : (Jvm.Cond.methodLink "SplitFares" (99 : Nat) ({ cls := "SplitFares$Office", name := "bars", desc := "(IIII)Z" } : Jvm.MethodName)) ∈ sf_TB := sf_in2 223 rfl rfl
set_option maxRecDepth 20000 in
theorem sw_464 : (Jvm.Cond.instanceMethod ({ cls := "SplitFares$Office", name := "bars", desc := "(IIII)Z" } : Jvm.MethodName)) ∈ sf_TB := sf_in2 224 rfl rfl
set_option maxRecDepth 20000 in
theorem sw_465 : (Jvm.Cond.selects "SplitFares$Office" ({ cls := "SplitFares$Office", name := "bars", desc := "(IIII)Z" } : Jvm.MethodName) ({ cls := "SplitFares$Office", name := "bars", desc := "(IIII)Z" } : Jvm.MethodName)) ∈ sf_TB := sf_in2 225 rfl rfl
set_option maxRecDepth 20000 in
theorem sw_466 : (Jvm.Cond.code ({ cls := "SplitFares$Office", name := "bars", desc := "(IIII)Z" } : Jvm.MethodName) prog_5_method_13_code (7 : Nat) (Option.some Jvm.ClassFile.FieldType.boolean)) ∈ sf_TB := sf_in2 226 rfl rfl
set_option maxRecDepth 20000 in
theorem sw_467 : (Jvm.Cond.methodLink "SplitFares$Office" (82 : Nat) ({ cls := "SplitFares$Office", name := "hasTrain", desc := "(I)Z" } : Jvm.MethodName)) ∈ sf_TB := sf_in2 227 rfl rfl
set_option maxRecDepth 20000 in
theorem sw_468 : (Jvm.Cond.methodLink "SplitFaresLaw" (32 : Nat) ({ cls := "SplitFares", name := "held", desc := "(III)I" } : Jvm.MethodName)) ∈ sf_TB := sf_in2 228 rfl rfl
set_option maxRecDepth 20000 in
theorem sw_469 : (Jvm.Cond.instanceMethod ({ cls := "SplitFares", name := "held", desc := "(III)I" } : Jvm.MethodName)) ∈ sf_TB := sf_in2 229 rfl rfl
set_option maxRecDepth 20000 in
theorem sw_470 : (Jvm.Cond.selects "SplitFares" ({ cls := "SplitFares", name := "held", desc := "(III)I" } : Jvm.MethodName) ({ cls := "SplitFares", name := "held", desc := "(III)I" } : Jvm.MethodName)) ∈ sf_TB := sf_in2 230 rfl rfl
set_option maxRecDepth 20000 in
theorem sw_471 : (Jvm.Cond.code ({ cls := "SplitFares", name := "held", desc := "(III)I" } : Jvm.MethodName) prog_1_method_6_code (4 : Nat) (Option.some Jvm.ClassFile.FieldType.int)) ∈ sf_TB := sf_in2 231 rfl rfl
set_option maxRecDepth 20000 in
theorem sw_472 : (Jvm.Cond.methodLink "SplitFares" (111 : Nat) ({ cls := "SplitFares$Pocket", name := "heldOf", desc := "(III)I" } : Jvm.MethodName)) ∈ sf_TB := sf_in2 232 rfl rfl
set_option maxRecDepth 20000 in
theorem sw_473 : (Jvm.Cond.instanceMethod ({ cls := "SplitFares$Pocket", name := "heldOf", desc := "(III)I" } : Jvm.MethodName)) ∈ sf_TB := sf_in2 233 rfl rfl
set_option maxRecDepth 20000 in
theorem sw_474 : (Jvm.Cond.selects "SplitFares$Pocket" ({ cls := "SplitFares$Pocket", name := "heldOf", desc := "(III)I" } : Jvm.MethodName) ({ cls := "SplitFares$Pocket", name := "heldOf", desc := "(III)I" } : Jvm.MethodName)) ∈ sf_TB := sf_in2 234 rfl rfl
set_option maxRecDepth 20000 in
theorem sw_475 : (Jvm.Cond.code ({ cls := "SplitFares$Pocket", name := "heldOf", desc := "(III)I" } : Jvm.MethodName) prog_6_method_3_code (5 : Nat) (Option.some Jvm.ClassFile.FieldType.int)) ∈ sf_TB := sf_in2 235 rfl rfl
set_option maxRecDepth 20000 in
theorem sw_476 : (Jvm.Cond.methodLink "SplitFaresLaw" (36 : Nat) ({ cls := "SplitFares", name := "terms", desc := "(II)I" } : Jvm.MethodName)) ∈ sf_TB := sf_in2 236 rfl rfl
set_option maxRecDepth 20000 in
theorem sw_477 : (Jvm.Cond.instanceMethod ({ cls := "SplitFares", name := "terms", desc := "(II)I" } : Jvm.MethodName)) ∈ sf_TB := sf_in2 237 rfl rfl
set_option maxRecDepth 20000 in
theorem sw_478 : (Jvm.Cond.selects "SplitFares" ({ cls := "SplitFares", name := "terms", desc := "(II)I" } : Jvm.MethodName) ({ cls := "SplitFares", name := "terms", desc := "(II)I" } : Jvm.MethodName)) ∈ sf_TB := sf_in2 238 rfl rfl
set_option maxRecDepth 20000 in
theorem sw_479 : (Jvm.Cond.code ({ cls := "SplitFares", name := "terms", desc := "(II)I" } : Jvm.MethodName) prog_1_method_7_code (4 : Nat) (Option.some Jvm.ClassFile.FieldType.int)) ∈ sf_TB := sf_in2 239 rfl rfl
set_option maxRecDepth 20000 in
theorem sw_480 : (Jvm.Cond.fieldLink "SplitFares" (116 : Nat) "SplitFares" "MOST_OF_TERM" "[I") ∈ sf_TB := sf_in3 0 rfl rfl
set_option maxRecDepth 20000 in
theorem sw_482 : (Jvm.Cond.methodLink "SplitFares" (122 : Nat) ({ cls := "SplitFares$Office", name := "term", desc := "(I)I" } : Jvm.MethodName)) ∈ sf_TB := sf_in3 2 rfl rfl
set_option maxRecDepth 20000 in
theorem sw_483 : (Jvm.Cond.instanceMethod ({ cls := "SplitFares$Office", name := "term", desc := "(I)I" } : Jvm.MethodName)) ∈ sf_TB := sf_in3 3 rfl rfl
set_option maxRecDepth 20000 in
theorem sw_484 : (Jvm.Cond.selects "SplitFares$Office" ({ cls := "SplitFares$Office", name := "term", desc := "(I)I" } : Jvm.MethodName) ({ cls := "SplitFares$Office", name := "term", desc := "(I)I" } : Jvm.MethodName)) ∈ sf_TB := sf_in3 4 rfl rfl
set_option maxRecDepth 20000 in
theorem sw_485 : (Jvm.Cond.code ({ cls := "SplitFares$Office", name := "term", desc := "(I)I" } : Jvm.MethodName) prog_5_method_7_code (2 : Nat) (Option.some Jvm.ClassFile.FieldType.int)) ∈ sf_TB := sf_in3 5 rfl rfl
set_option maxRecDepth 20000 in
theorem sw_486 : (Jvm.Cond.methodLink "SplitFares" (125 : Nat) ({ cls := "SplitFares$Office", name := "setTerm", desc := "(II)V" } : Jvm.MethodName)) ∈ sf_TB := sf_in3 6 rfl rfl
set_option maxRecDepth 20000 in
theorem sw_487 : (Jvm.Cond.instanceMethod ({ cls := "SplitFares$Office", name := "setTerm", desc := "(II)V" } : Jvm.MethodName)) ∈ sf_TB := sf_in3 7 rfl rfl
set_option maxRecDepth 20000 in
theorem sw_488 : (Jvm.Cond.selects "SplitFares$Office" ({ cls := "SplitFares$Office", name := "setTerm", desc := "(II)V" } : Jvm.MethodName) ({ cls := "SplitFares$Office", name := "setTerm", desc := "(II)V" } : Jvm.MethodName)) ∈ sf_TB := sf_in3 8 rfl rfl
set_option maxRecDepth 20000 in
theorem sw_489 : (Jvm.Cond.code ({ cls := "SplitFares$Office", name := "setTerm", desc := "(II)V" } : Jvm.MethodName) prog_5_method_8_code (3 : Nat) (Option.none : Option Jvm.ClassFile.FieldType)) ∈ sf_TB := sf_in3 9 rfl rfl
set_option maxRecDepth 20000 in
theorem sw_490 : (Jvm.Cond.methodLink "SplitFares" (133 : Nat) ({ cls := "SplitFares$Log", name := "clear", desc := "()V" } : Jvm.MethodName)) ∈ sf_TB := sf_in3 10 rfl rfl
set_option maxRecDepth 20000 in
theorem sw_491 : (Jvm.Cond.instanceMethod ({ cls := "SplitFares$Log", name := "clear", desc := "()V" } : Jvm.MethodName)) ∈ sf_TB := sf_in3 11 rfl rfl
set_option maxRecDepth 20000 in
theorem sw_492 : (Jvm.Cond.selects "SplitFares$Log" ({ cls := "SplitFares$Log", name := "clear", desc := "()V" } : Jvm.MethodName) ({ cls := "SplitFares$Log", name := "clear", desc := "()V" } : Jvm.MethodName)) ∈ sf_TB := sf_in3 12 rfl rfl
set_option maxRecDepth 20000 in
theorem sw_493 : (Jvm.Cond.code ({ cls := "SplitFares$Log", name := "clear", desc := "()V" } : Jvm.MethodName) prog_3_method_2_code (1 : Nat) (Option.none : Option Jvm.ClassFile.FieldType)) ∈ sf_TB := sf_in3 13 rfl rfl
set_option maxRecDepth 20000 in
theorem sw_494 : (Jvm.Cond.methodLink "SplitFaresLaw" (40 : Nat) ({ cls := "SplitFares", name := "feed", desc := "(IIIII)I" } : Jvm.MethodName)) ∈ sf_TB := sf_in3 14 rfl rfl
set_option maxRecDepth 20000 in
theorem sw_495 : (Jvm.Cond.instanceMethod ({ cls := "SplitFares", name := "feed", desc := "(IIIII)I" } : Jvm.MethodName)) ∈ sf_TB := sf_in3 15 rfl rfl
set_option maxRecDepth 20000 in
theorem sw_496 : (Jvm.Cond.selects "SplitFares" ({ cls := "SplitFares", name := "feed", desc := "(IIIII)I" } : Jvm.MethodName) ({ cls := "SplitFares", name := "feed", desc := "(IIIII)I" } : Jvm.MethodName)) ∈ sf_TB := sf_in3 16 rfl rfl
set_option maxRecDepth 20000 in
theorem sw_497 : (Jvm.Cond.code ({ cls := "SplitFares", name := "feed", desc := "(IIIII)I" } : Jvm.MethodName) prog_1_method_8_code (6 : Nat) (Option.some Jvm.ClassFile.FieldType.int)) ∈ sf_TB := sf_in3 17 rfl rfl
set_option maxRecDepth 20000 in
theorem sw_498 : (Jvm.Cond.methodLink "SplitFares" (144 : Nat) ({ cls := "SplitFares$Tape", name := "put", desc := "(I)V" } : Jvm.MethodName)) ∈ sf_TB := sf_in3 18 rfl rfl
set_option maxRecDepth 20000 in
theorem sw_499 : (Jvm.Cond.instanceMethod ({ cls := "SplitFares$Tape", name := "put", desc := "(I)V" } : Jvm.MethodName)) ∈ sf_TB := sf_in3 19 rfl rfl
set_option maxRecDepth 20000 in
theorem sw_500 : (Jvm.Cond.selects "SplitFares$Tape" ({ cls := "SplitFares$Tape", name := "put", desc := "(I)V" } : Jvm.MethodName) ({ cls := "SplitFares$Tape", name := "put", desc := "(I)V" } : Jvm.MethodName)) ∈ sf_TB := sf_in3 20 rfl rfl
set_option maxRecDepth 20000 in
theorem sw_501 : (Jvm.Cond.code ({ cls := "SplitFares$Tape", name := "put", desc := "(I)V" } : Jvm.MethodName) prog_9_method_2_code (3 : Nat) (Option.none : Option Jvm.ClassFile.FieldType)) ∈ sf_TB := sf_in3 21 rfl rfl
set_option maxRecDepth 20000 in
theorem sw_502 : (Jvm.Cond.methodLink "SplitFaresLaw" (45 : Nat) ({ cls := "SplitFares", name := "end", desc := "(I)I" } : Jvm.MethodName)) ∈ sf_TB := sf_in3 22 rfl rfl
set_option maxRecDepth 20000 in
theorem sw_503 : (Jvm.Cond.instanceMethod ({ cls := "SplitFares", name := "end", desc := "(I)I" } : Jvm.MethodName)) ∈ sf_TB := sf_in3 23 rfl rfl
set_option maxRecDepth 20000 in
theorem sw_504 : (Jvm.Cond.selects "SplitFares" ({ cls := "SplitFares", name := "end", desc := "(I)I" } : Jvm.MethodName) ({ cls := "SplitFares", name := "end", desc := "(I)I" } : Jvm.MethodName)) ∈ sf_TB := sf_in3 24 rfl rfl
set_option maxRecDepth 20000 in
theorem sw_505 : (Jvm.Cond.code ({ cls := "SplitFares", name := "end", desc := "(I)I" } : Jvm.MethodName) prog_1_method_9_code (2 : Nat) (Option.some Jvm.ClassFile.FieldType.int)) ∈ sf_TB := sf_in3 25 rfl rfl
set_option maxRecDepth 20000 in
theorem sw_506 : (Jvm.Cond.methodLink "SplitFaresLaw" (50 : Nat) ({ cls := "SplitFares", name := "row", desc := "()I" } : Jvm.MethodName)) ∈ sf_TB := sf_in3 26 rfl rfl
set_option maxRecDepth 20000 in
theorem sw_507 : (Jvm.Cond.instanceMethod ({ cls := "SplitFares", name := "row", desc := "()I" } : Jvm.MethodName)) ∈ sf_TB := sf_in3 27 rfl rfl
set_option maxRecDepth 20000 in
theorem sw_508 : (Jvm.Cond.selects "SplitFares" ({ cls := "SplitFares", name := "row", desc := "()I" } : Jvm.MethodName) ({ cls := "SplitFares", name := "row", desc := "()I" } : Jvm.MethodName)) ∈ sf_TB := sf_in3 28 rfl rfl
set_option maxRecDepth 20000 in
theorem sw_509 : (Jvm.Cond.code ({ cls := "SplitFares", name := "row", desc := "()I" } : Jvm.MethodName) prog_1_method_10_code (5 : Nat) (Option.some Jvm.ClassFile.FieldType.int)) ∈ sf_TB := sf_in3 29 rfl rfl
set_option maxRecDepth 20000 in
theorem sw_510 : (Jvm.Cond.methodLink "SplitFares" (148 : Nat) ({ cls := "SplitFares$Tape", name := "at", desc := "(I)I" } : Jvm.MethodName)) ∈ sf_TB := sf_in3 30 rfl rfl
set_option maxRecDepth 20000 in
theorem sw_511 : (Jvm.Cond.instanceMethod ({ cls := "SplitFares$Tape", name := "at", desc := "(I)I" } : Jvm.MethodName)) ∈ sf_TB := sf_in3 31 rfl rfl
set_option maxRecDepth 20000 in
theorem sw_512 : (Jvm.Cond.selects "SplitFares$Tape" ({ cls := "SplitFares$Tape", name := "at", desc := "(I)I" } : Jvm.MethodName) ({ cls := "SplitFares$Tape", name := "at", desc := "(I)I" } : Jvm.MethodName)) ∈ sf_TB := sf_in3 32 rfl rfl
set_option maxRecDepth 20000 in
theorem sw_513 : (Jvm.Cond.code ({ cls := "SplitFares$Tape", name := "at", desc := "(I)I" } : Jvm.MethodName) prog_9_method_3_code (2 : Nat) (Option.some Jvm.ClassFile.FieldType.int)) ∈ sf_TB := sf_in3 33 rfl rfl
set_option maxRecDepth 20000 in
theorem sw_514 : (Jvm.Cond.methodLink "SplitFaresLaw" (55 : Nat) ({ cls := "SplitFares", name := "delays", desc := "()I" } : Jvm.MethodName)) ∈ sf_TB := sf_in3 34 rfl rfl
set_option maxRecDepth 20000 in
theorem sw_515 : (Jvm.Cond.instanceMethod ({ cls := "SplitFares", name := "delays", desc := "()I" } : Jvm.MethodName)) ∈ sf_TB := sf_in3 35 rfl rfl
set_option maxRecDepth 20000 in
theorem sw_516 : (Jvm.Cond.selects "SplitFares" ({ cls := "SplitFares", name := "delays", desc := "()I" } : Jvm.MethodName) ({ cls := "SplitFares", name := "delays", desc := "()I" } : Jvm.MethodName)) ∈ sf_TB := sf_in3 36 rfl rfl
set_option maxRecDepth 20000 in
theorem sw_517 : (Jvm.Cond.code ({ cls := "SplitFares", name := "delays", desc := "()I" } : Jvm.MethodName) prog_1_method_11_code (1 : Nat) (Option.some Jvm.ClassFile.FieldType.int)) ∈ sf_TB := sf_in3 37 rfl rfl
set_option maxRecDepth 20000 in
theorem sw_518 : (Jvm.Cond.methodLink "SplitFaresLaw" (59 : Nat) ({ cls := "SplitFares", name := "law", desc := "()I" } : Jvm.MethodName)) ∈ sf_TB := sf_in3 38 rfl rfl
set_option maxRecDepth 20000 in
theorem sw_519 : (Jvm.Cond.instanceMethod ({ cls := "SplitFares", name := "law", desc := "()I" } : Jvm.MethodName)) ∈ sf_TB := sf_in3 39 rfl rfl
set_option maxRecDepth 20000 in
theorem sw_520 : (Jvm.Cond.selects "SplitFares" ({ cls := "SplitFares", name := "law", desc := "()I" } : Jvm.MethodName) ({ cls := "SplitFares", name := "law", desc := "()I" } : Jvm.MethodName)) ∈ sf_TB := sf_in3 40 rfl rfl
set_option maxRecDepth 20000 in
theorem sw_521 : (Jvm.Cond.code ({ cls := "SplitFares", name := "law", desc := "()I" } : Jvm.MethodName) prog_1_method_12_code (3 : Nat) (Option.some Jvm.ClassFile.FieldType.int)) ∈ sf_TB := sf_in3 41 rfl rfl
set_option maxRecDepth 20000 in
theorem sw_522 : (Jvm.Cond.methodLink "SplitFares" (154 : Nat) ({ cls := "SplitFares$Reader", name := "readText", desc := "(LSplitFares$Tape;Z)Z" } : Jvm.MethodName)) ∈ sf_TB := sf_in3 42 rfl rfl
set_option maxRecDepth 20000 in
theorem sw_523 : (Jvm.Cond.instanceMethod ({ cls := "SplitFares$Reader", name := "readText", desc := "(LSplitFares$Tape;Z)Z" } : Jvm.MethodName)) ∈ sf_TB := sf_in3 43 rfl rfl
set_option maxRecDepth 20000 in
theorem sw_524 : (Jvm.Cond.selects "SplitFares$Reader" ({ cls := "SplitFares$Reader", name := "readText", desc := "(LSplitFares$Tape;Z)Z" } : Jvm.MethodName) ({ cls := "SplitFares$Reader", name := "readText", desc := "(LSplitFares$Tape;Z)Z" } : Jvm.MethodName)) ∈ sf_TB := sf_in3 44 rfl rfl
set_option maxRecDepth 20000 in
theorem sw_525 : (Jvm.Cond.code ({ cls := "SplitFares$Reader", name := "readText", desc := "(LSplitFares$Tape;Z)Z" } : Jvm.MethodName) prog_8_method_3_code (4 : Nat) (Option.some Jvm.ClassFile.FieldType.boolean)) ∈ sf_TB := sf_in3 45 rfl rfl
set_option maxRecDepth 20000 in
theorem sw_526 : (Jvm.Cond.methodLink "SplitFares$Reader" (37 : Nat) ({ cls := "SplitFares$Tokens", name := "scan", desc := "(LSplitFares$Tape;)V" } : Jvm.MethodName)) ∈ sf_TB := sf_in3 46 rfl rfl
set_option maxRecDepth 20000 in
theorem sw_527 : (Jvm.Cond.instanceMethod ({ cls := "SplitFares$Tokens", name := "scan", desc := "(LSplitFares$Tape;)V" } : Jvm.MethodName)) ∈ sf_TB := sf_in3 47 rfl rfl
set_option maxRecDepth 20000 in
theorem sw_528 : (Jvm.Cond.selects "SplitFares$Tokens" ({ cls := "SplitFares$Tokens", name := "scan", desc := "(LSplitFares$Tape;)V" } : Jvm.MethodName) ({ cls := "SplitFares$Tokens", name := "scan", desc := "(LSplitFares$Tape;)V" } : Jvm.MethodName)) ∈ sf_TB := sf_in3 48 rfl rfl
set_option maxRecDepth 20000 in
theorem sw_529 : (Jvm.Cond.code ({ cls := "SplitFares$Tokens", name := "scan", desc := "(LSplitFares$Tape;)V" } : Jvm.MethodName) prog_10_method_2_code (7 : Nat) (Option.none : Option Jvm.ClassFile.FieldType)) ∈ sf_TB := sf_in3 49 rfl rfl
set_option maxRecDepth 20000 in
theorem sw_530 : (Jvm.Cond.methodLink "SplitFares$Tokens" (45 : Nat) ({ cls := "java/lang/Math", name := "min", desc := "(II)I" } : Jvm.MethodName)) ∈ sf_TB := sf_in3 50 rfl rfl
set_option maxRecDepth 20000 in
theorem sw_531 : (Jvm.Cond.methodLink "SplitFares$Tokens" (51 : Nat) ({ cls := "SplitFares$Tape", name := "at", desc := "(I)I" } : Jvm.MethodName)) ∈ sf_TB := sf_in3 51 rfl rfl
set_option maxRecDepth 20000 in
theorem sw_532 : (Jvm.Cond.methodLink "SplitFares$Tokens" (55 : Nat) ({ cls := "SplitFares$Tokens", name := "kindOf", desc := "(I)I" } : Jvm.MethodName)) ∈ sf_TB := sf_in3 52 rfl rfl
set_option maxRecDepth 20000 in
theorem sw_533 : (Jvm.Cond.static ({ cls := "SplitFares$Tokens", name := "kindOf", desc := "(I)I" } : Jvm.MethodName)) ∈ sf_TB := sf_in3 53 rfl rfl
set_option maxRecDepth 20000 in
theorem sw_534 : (Jvm.Cond.code ({ cls := "SplitFares$Tokens", name := "kindOf", desc := "(I)I" } : Jvm.MethodName) prog_10_method_3_code (1 : Nat) (Option.some Jvm.ClassFile.FieldType.int)) ∈ sf_TB := sf_in3 54 rfl rfl
set_option maxRecDepth 20000 in
theorem sw_535 : (Jvm.Cond.methodLink "SplitFares$Tokens" (58 : Nat) ({ cls := "SplitFares$Tokens", name := "look", desc := "(I)V" } : Jvm.MethodName)) ∈ sf_TB := sf_in3 55 rfl rfl
set_option maxRecDepth 20000 in
theorem sw_537 : (Jvm.Cond.instanceMethod ({ cls := "SplitFares$Tokens", name := "look", desc := "(I)V" } : Jvm.MethodName)) ∈ sf_TB := sf_in3 57 rfl rfl
set_option maxRecDepth 20000 in
theorem sw_538 : (Jvm.Cond.code ({ cls := "SplitFares$Tokens", name := "look", desc := "(I)V" } : Jvm.MethodName) prog_10_method_4_code (2 : Nat) (Option.none : Option Jvm.ClassFile.FieldType)) ∈ sf_TB := sf_in3 58 rfl rfl
set_option maxRecDepth 20000 in
theorem sw_539 : (Jvm.Cond.methodLink "SplitFares$Reader" (41 : Nat) ({ cls := "SplitFares$Program", name := "clear", desc := "()V" } : Jvm.MethodName)) ∈ sf_TB := sf_in3 59 rfl rfl
set_option maxRecDepth 20000 in
theorem sw_540 : (Jvm.Cond.instanceMethod ({ cls := "SplitFares$Program", name := "clear", desc := "()V" } : Jvm.MethodName)) ∈ sf_TB := sf_in3 60 rfl rfl
set_option maxRecDepth 20000 in
theorem sw_541 : (Jvm.Cond.selects "SplitFares$Program" ({ cls := "SplitFares$Program", name := "clear", desc := "()V" } : Jvm.MethodName) ({ cls := "SplitFares$Program", name := "clear", desc := "()V" } : Jvm.MethodName)) ∈ sf_TB := sf_in3 61 rfl rfl
set_option maxRecDepth 20000 in
theorem sw_542 : (Jvm.Cond.code ({ cls := "SplitFares$Program", name := "clear", desc := "()V" } : Jvm.MethodName) prog_7_method_2_code (1 : Nat) (Option.none : Option Jvm.ClassFile.FieldType)) ∈ sf_TB := sf_in3 62 rfl rfl
set_option maxRecDepth 20000 in
theorem sw_543 : (Jvm.Cond.methodLink "SplitFares$Reader" (44 : Nat) ({ cls := "SplitFares$Reader", name := "readOrder", desc := "()Z" } : Jvm.MethodName)) ∈ sf_TB := sf_in3 63 rfl rfl
set_option maxRecDepth 20000 in
theorem sw_545 : (Jvm.Cond.instanceMethod ({ cls := "SplitFares$Reader", name := "readOrder", desc := "()Z" } : Jvm.MethodName)) ∈ sf_TB := sf_in3 65 rfl rfl
set_option maxRecDepth 20000 in
theorem sw_546 : (Jvm.Cond.code ({ cls := "SplitFares$Reader", name := "readOrder", desc := "()Z" } : Jvm.MethodName) prog_8_method_5_code (2 : Nat) (Option.some Jvm.ClassFile.FieldType.boolean)) ∈ sf_TB := sf_in3 66 rfl rfl
set_option maxRecDepth 20000 in
theorem sw_547 : (Jvm.Cond.methodLink "SplitFares$Reader" (88 : Nat) ({ cls := "SplitFares$Reader", name := "orderKind", desc := "()I" } : Jvm.MethodName)) ∈ sf_TB := sf_in3 67 rfl rfl
set_option maxRecDepth 20000 in
theorem sw_549 : (Jvm.Cond.instanceMethod ({ cls := "SplitFares$Reader", name := "orderKind", desc := "()I" } : Jvm.MethodName)) ∈ sf_TB := sf_in3 69 rfl rfl
set_option maxRecDepth 20000 in
theorem sw_550 : (Jvm.Cond.code ({ cls := "SplitFares$Reader", name := "orderKind", desc := "()I" } : Jvm.MethodName) prog_8_method_6_code (1 : Nat) (Option.some Jvm.ClassFile.FieldType.int)) ∈ sf_TB := sf_in3 70 rfl rfl
set_option maxRecDepth 20000 in
theorem sw_552 : (Jvm.Cond.methodLink "SplitFares$Reader" (53 : Nat) ({ cls := "SplitFares$Tokens", name := "isWord", desc := "(Ljava/lang/String;)Z" } : Jvm.MethodName)) ∈ sf_TB := sf_in3 72 rfl rfl
set_option maxRecDepth 20000 in
theorem sw_553 : (Jvm.Cond.instanceMethod ({ cls := "SplitFares$Tokens", name := "isWord", desc := "(Ljava/lang/String;)Z" } : Jvm.MethodName)) ∈ sf_TB := sf_in3 73 rfl rfl
set_option maxRecDepth 20000 in
theorem sw_554 : (Jvm.Cond.selects "SplitFares$Tokens" ({ cls := "SplitFares$Tokens", name := "isWord", desc := "(Ljava/lang/String;)Z" } : Jvm.MethodName) ({ cls := "SplitFares$Tokens", name := "isWord", desc := "(Ljava/lang/String;)Z" } : Jvm.MethodName)) ∈ sf_TB := sf_in3 74 rfl rfl
set_option maxRecDepth 20000 in
theorem sw_555 : (Jvm.Cond.code ({ cls := "SplitFares$Tokens", name := "isWord", desc := "(Ljava/lang/String;)Z" } : Jvm.MethodName) prog_10_method_10_code (3 : Nat) (Option.some Jvm.ClassFile.FieldType.boolean)) ∈ sf_TB := sf_in3 75 rfl rfl
set_option maxRecDepth 20000 in
theorem sw_556 : (Jvm.Cond.methodLink "SplitFares$Tokens" (65 : Nat) ({ cls := "java/lang/String", name := "length", desc := "()I" } : Jvm.MethodName)) ∈ sf_TB := sf_in3 76 rfl rfl
set_option maxRecDepth 20000 in
theorem sw_557 : (Jvm.Cond.instanceMethod ({ cls := "java/lang/String", name := "length", desc := "()I" } : Jvm.MethodName)) ∈ sf_TB := sf_in3 77 rfl rfl
set_option maxRecDepth 20000 in
theorem sw_558 : (Jvm.Cond.selects "java/lang/String" ({ cls := "java/lang/String", name := "length", desc := "()I" } : Jvm.MethodName) ({ cls := "java/lang/String", name := "length", desc := "()I" } : Jvm.MethodName)) ∈ sf_TB := sf_in3 78 rfl rfl
set_option maxRecDepth 20000 in
theorem sw_559 : (Jvm.Cond.code ({ cls := "java/lang/String", name := "length", desc := "()I" } : Jvm.MethodName) prog_16_method_54_code (1 : Nat) (Option.some Jvm.ClassFile.FieldType.int)) ∈ sf_TB := sf_in3 79 rfl rfl
set_option maxRecDepth 20000 in
theorem sw_560 : (Jvm.Cond.methodLink "java/lang/String" (335 : Nat) ({ cls := "java/lang/String", name := "coder", desc := "()B" } : Jvm.MethodName)) ∈ sf_TB := sf_in3 80 rfl rfl
set_option maxRecDepth 20000 in
theorem sw_561 : (Jvm.Cond.instanceMethod ({ cls := "java/lang/String", name := "coder", desc := "()B" } : Jvm.MethodName)) ∈ sf_TB := sf_in3 81 rfl rfl
set_option maxRecDepth 20000 in
theorem sw_562 : (Jvm.Cond.selects "java/lang/String" ({ cls := "java/lang/String", name := "coder", desc := "()B" } : Jvm.MethodName) ({ cls := "java/lang/String", name := "coder", desc := "()B" } : Jvm.MethodName)) ∈ sf_TB := sf_in3 82 rfl rfl
set_option maxRecDepth 20000 in
theorem sw_563 : (Jvm.Cond.code ({ cls := "java/lang/String", name := "coder", desc := "()B" } : Jvm.MethodName) prog_16_method_152_code (1 : Nat) (Option.some Jvm.ClassFile.FieldType.byte)) ∈ sf_TB := sf_in3 83 rfl rfl
set_option maxRecDepth 20000 in
theorem sw_564 : (Jvm.Cond.fieldLink "java/lang/String" (38 : Nat) "java/lang/String" "COMPACT_STRINGS" "Z") ∈ sf_TB := sf_in3 84 rfl rfl
set_option maxRecDepth 20000 in
theorem sw_566 : (Jvm.Cond.methodLink "SplitFares$Tokens" (62 : Nat) ({ cls := "SplitFares$Tokens", name := "byteAt", desc := "(I)I" } : Jvm.MethodName)) ∈ sf_TB := sf_in3 86 rfl rfl
set_option maxRecDepth 20000 in
theorem sw_568 : (Jvm.Cond.instanceMethod ({ cls := "SplitFares$Tokens", name := "byteAt", desc := "(I)I" } : Jvm.MethodName)) ∈ sf_TB := sf_in3 88 rfl rfl
set_option maxRecDepth 20000 in
theorem sw_569 : (Jvm.Cond.code ({ cls := "SplitFares$Tokens", name := "byteAt", desc := "(I)I" } : Jvm.MethodName) prog_10_method_7_code (2 : Nat) (Option.some Jvm.ClassFile.FieldType.int)) ∈ sf_TB := sf_in3 89 rfl rfl
set_option maxRecDepth 20000 in
theorem sw_570 : (Jvm.Cond.methodLink "SplitFares$Tokens" (70 : Nat) ({ cls := "java/lang/String", name := "charAt", desc := "(I)C" } : Jvm.MethodName)) ∈ sf_TB := sf_in3 90 rfl rfl
set_option maxRecDepth 20000 in
theorem sw_571 : (Jvm.Cond.instanceMethod ({ cls := "java/lang/String", name := "charAt", desc := "(I)C" } : Jvm.MethodName)) ∈ sf_TB := sf_in3 91 rfl rfl
set_option maxRecDepth 20000 in
theorem sw_572 : (Jvm.Cond.selects "java/lang/String" ({ cls := "java/lang/String", name := "charAt", desc := "(I)C" } : Jvm.MethodName) ({ cls := "java/lang/String", name := "charAt", desc := "(I)C" } : Jvm.MethodName)) ∈ sf_TB := sf_in3 92 rfl rfl
set_option maxRecDepth 20000 in
theorem sw_573 : (Jvm.Cond.code ({ cls := "java/lang/String", name := "charAt", desc := "(I)C" } : Jvm.MethodName) prog_16_method_56_code (2 : Nat) (Option.some Jvm.ClassFile.FieldType.char)) ∈ sf_TB := sf_in3 93 rfl rfl
set_option maxRecDepth 20000 in
theorem sw_574 : (Jvm.Cond.methodLink "java/lang/String" (492 : Nat) ({ cls := "java/lang/String", name := "isLatin1", desc := "()Z" } : Jvm.MethodName)) ∈ sf_TB := sf_in3 94 rfl rfl
set_option maxRecDepth 20000 in
theorem sw_575 : (Jvm.Cond.instanceMethod ({ cls := "java/lang/String", name := "isLatin1", desc := "()Z" } : Jvm.MethodName)) ∈ sf_TB := sf_in3 95 rfl rfl
set_option maxRecDepth 20000 in
theorem sw_576 : (Jvm.Cond.selects "java/lang/String" ({ cls := "java/lang/String", name := "isLatin1", desc := "()Z" } : Jvm.MethodName) ({ cls := "java/lang/String", name := "isLatin1", desc := "()Z" } : Jvm.MethodName)) ∈ sf_TB := sf_in3 96 rfl rfl
set_option maxRecDepth 20000 in
theorem sw_577 : (Jvm.Cond.code ({ cls := "java/lang/String", name := "isLatin1", desc := "()Z" } : Jvm.MethodName) prog_16_method_154_code (1 : Nat) (Option.some Jvm.ClassFile.FieldType.boolean)) ∈ sf_TB := sf_in3 97 rfl rfl
set_option maxRecDepth 20000 in
theorem sw_578 : (Jvm.Cond.methodLink "java/lang/String" (495 : Nat) ({ cls := "java/lang/StringLatin1", name := "charAt", desc := "([BI)C" } : Jvm.MethodName)) ∈ sf_TB := sf_in3 98 rfl rfl
set_option maxRecDepth 20000 in
theorem sw_579 : (Jvm.Cond.static ({ cls := "java/lang/StringLatin1", name := "charAt", desc := "([BI)C" } : Jvm.MethodName)) ∈ sf_TB := sf_in3 99 rfl rfl
set_option maxRecDepth 20000 in
theorem sw_580 : (Jvm.Cond.code ({ cls := "java/lang/StringLatin1", name := "charAt", desc := "([BI)C" } : Jvm.MethodName) prog_17_method_2_code (2 : Nat) (Option.some Jvm.ClassFile.FieldType.char)) ∈ sf_TB := sf_in3 100 rfl rfl
set_option maxRecDepth 20000 in
theorem sw_581 : (Jvm.Cond.methodLink "java/lang/StringLatin1" (9 : Nat) ({ cls := "java/lang/String", name := "checkIndex", desc := "(II)V" } : Jvm.MethodName)) ∈ sf_TB := sf_in3 101 rfl rfl
set_option maxRecDepth 20000 in
theorem sw_582 : (Jvm.Cond.static ({ cls := "java/lang/String", name := "checkIndex", desc := "(II)V" } : Jvm.MethodName)) ∈ sf_TB := sf_in3 102 rfl rfl
set_option maxRecDepth 20000 in
theorem sw_583 : (Jvm.Cond.code ({ cls := "java/lang/String", name := "checkIndex", desc := "(II)V" } : Jvm.MethodName) prog_16_method_155_code (2 : Nat) (Option.none : Option Jvm.ClassFile.FieldType)) ∈ sf_TB := sf_in3 103 rfl rfl
set_option maxRecDepth 20000 in
theorem sw_584 : (Jvm.Cond.fieldLink "java/lang/String" (1053 : Nat) "jdk/internal/util/Preconditions" "SIOOBE_FORMATTER" "Ljava/util/function/BiFunction;") ∈ sf_TB := sf_in3 104 rfl rfl
set_option maxRecDepth 20000 in
theorem sw_586 : (Jvm.Cond.methodLink "java/lang/String" (1059 : Nat) ({ cls := "jdk/internal/util/Preconditions", name := "checkIndex", desc := "(IILjava/util/function/BiFunction;)I" } : Jvm.MethodName)) ∈ sf_TB := sf_in3 106 rfl rfl
set_option maxRecDepth 20000 in
theorem sw_587 : (Jvm.Cond.static ({ cls := "jdk/internal/util/Preconditions", name := "checkIndex", desc := "(IILjava/util/function/BiFunction;)I" } : Jvm.MethodName)) ∈ sf_TB := sf_in3 107 rfl rfl
set_option maxRecDepth 20000 in
theorem sw_588 : (Jvm.Cond.code ({ cls := "jdk/internal/util/Preconditions", name := "checkIndex", desc := "(IILjava/util/function/BiFunction;)I" } : Jvm.MethodName) prog_21_method_11_code (3 : Nat) (Option.some Jvm.ClassFile.FieldType.int)) ∈ sf_TB := sf_in3 108 rfl rfl
set_option maxRecDepth 20000 in
theorem sw_589 : (Jvm.Cond.methodLink "java/lang/String" (498 : Nat) ({ cls := "java/lang/StringUTF16", name := "charAt", desc := "([BI)C" } : Jvm.MethodName)) ∈ sf_TB := sf_in3 109 rfl rfl
set_option maxRecDepth 20000 in
theorem sw_590 : (Jvm.Cond.static ({ cls := "java/lang/StringUTF16", name := "charAt", desc := "([BI)C" } : Jvm.MethodName)) ∈ sf_TB := sf_in3 110 rfl rfl
set_option maxRecDepth 20000 in
theorem sw_591 : (Jvm.Cond.code ({ cls := "java/lang/StringUTF16", name := "charAt", desc := "([BI)C" } : Jvm.MethodName) prog_18_method_83_code (2 : Nat) (Option.some Jvm.ClassFile.FieldType.char)) ∈ sf_TB := sf_in3 111 rfl rfl
set_option maxRecDepth 20000 in
theorem sw_592 : (Jvm.Cond.methodLink "java/lang/StringUTF16" (67 : Nat) ({ cls := "java/lang/StringUTF16", name := "checkIndex", desc := "(I[B)V" } : Jvm.MethodName)) ∈ sf_TB := sf_in3 112 rfl rfl
set_option maxRecDepth 20000 in
theorem sw_593 : (Jvm.Cond.static ({ cls := "java/lang/StringUTF16", name := "checkIndex", desc := "(I[B)V" } : Jvm.MethodName)) ∈ sf_TB := sf_in3 113 rfl rfl
set_option maxRecDepth 20000 in
theorem sw_594 : (Jvm.Cond.code ({ cls := "java/lang/StringUTF16", name := "checkIndex", desc := "(I[B)V" } : Jvm.MethodName) prog_18_method_91_code (2 : Nat) (Option.none : Option Jvm.ClassFile.FieldType)) ∈ sf_TB := sf_in3 114 rfl rfl
set_option maxRecDepth 20000 in
theorem sw_595 : (Jvm.Cond.methodLink "java/lang/StringUTF16" (48 : Nat) ({ cls := "java/lang/StringUTF16", name := "length", desc := "([B)I" } : Jvm.MethodName)) ∈ sf_TB := sf_in3 115 rfl rfl
set_option maxRecDepth 20000 in
theorem sw_596 : (Jvm.Cond.static ({ cls := "java/lang/StringUTF16", name := "length", desc := "([B)I" } : Jvm.MethodName)) ∈ sf_TB := sf_in3 116 rfl rfl
set_option maxRecDepth 20000 in
theorem sw_597 : (Jvm.Cond.code ({ cls := "java/lang/StringUTF16", name := "length", desc := "([B)I" } : Jvm.MethodName) prog_18_method_6_code (1 : Nat) (Option.some Jvm.ClassFile.FieldType.int)) ∈ sf_TB := sf_in3 117 rfl rfl
set_option maxRecDepth 20000 in
theorem sw_598 : (Jvm.Cond.methodLink "java/lang/StringUTF16" (414 : Nat) ({ cls := "java/lang/String", name := "checkIndex", desc := "(II)V" } : Jvm.MethodName)) ∈ sf_TB := sf_in3 118 rfl rfl
set_option maxRecDepth 20000 in
theorem sw_599 : (Jvm.Cond.methodLink "java/lang/StringUTF16" (71 : Nat) ({ cls := "java/lang/StringUTF16", name := "getChar", desc := "([BI)C" } : Jvm.MethodName)) ∈ sf_TB := sf_in3 119 rfl rfl
set_option maxRecDepth 20000 in
theorem sw_600 : (Jvm.Cond.static ({ cls := "java/lang/StringUTF16", name := "getChar", desc := "([BI)C" } : Jvm.MethodName)) ∈ sf_TB := sf_in3 120 rfl rfl
set_option maxRecDepth 20000 in
theorem sw_601 : (Jvm.Cond.code ({ cls := "java/lang/StringUTF16", name := "getChar", desc := "([BI)C" } : Jvm.MethodName) prog_18_method_5_code (2 : Nat) (Option.some Jvm.ClassFile.FieldType.char)) ∈ sf_TB := sf_in3 121 rfl rfl
set_option maxRecDepth 20000 in
theorem sw_602 : (Jvm.Cond.fieldLink "java/lang/StringUTF16" (44 : Nat) "java/lang/StringUTF16" "$assertionsDisabled" "Z") ∈ sf_TB := sf_in3 122 rfl rfl
set_option maxRecDepth 20000 in
theorem sw_604 : (Jvm.Cond.fieldLink "java/lang/StringUTF16" (59 : Nat) "java/lang/StringUTF16" "HI_BYTE_SHIFT" "I") ∈ sf_TB := sf_in3 124 rfl rfl
set_option maxRecDepth 20000 in
theorem sw_606 : (Jvm.Cond.fieldLink "java/lang/StringUTF16" (63 : Nat) "java/lang/StringUTF16" "LO_BYTE_SHIFT" "I") ∈ sf_TB := sf_in3 126 rfl rfl
set_option maxRecDepth 20000 in
theorem sw_612 : (Jvm.Cond.methodLink "SplitFares$Reader" (57 : Nat) ({ cls := "SplitFares$Tokens", name := "step", desc := "()V" } : Jvm.MethodName)) ∈ sf_TB := sf_in3 132 rfl rfl
set_option maxRecDepth 20000 in
theorem sw_613 : (Jvm.Cond.instanceMethod ({ cls := "SplitFares$Tokens", name := "step", desc := "()V" } : Jvm.MethodName)) ∈ sf_TB := sf_in3 133 rfl rfl
set_option maxRecDepth 20000 in
theorem sw_614 : (Jvm.Cond.selects "SplitFares$Tokens" ({ cls := "SplitFares$Tokens", name := "step", desc := "()V" } : Jvm.MethodName) ({ cls := "SplitFares$Tokens", name := "step", desc := "()V" } : Jvm.MethodName)) ∈ sf_TB := sf_in3 134 rfl rfl
set_option maxRecDepth 20000 in
theorem sw_615 : (Jvm.Cond.code ({ cls := "SplitFares$Tokens", name := "step", desc := "()V" } : Jvm.MethodName) prog_10_method_5_code (1 : Nat) (Option.none : Option Jvm.ClassFile.FieldType)) ∈ sf_TB := sf_in3 135 rfl rfl
set_option maxRecDepth 20000 in
theorem sw_616 : (Jvm.Cond.methodLink "SplitFares$Reader" (78 : Nat) ({ cls := "SplitFares$Program", name := "openClause", desc := "(I)V" } : Jvm.MethodName)) ∈ sf_TB := sf_in3 136 rfl rfl
set_option maxRecDepth 20000 in
theorem sw_617 : (Jvm.Cond.instanceMethod ({ cls := "SplitFares$Program", name := "openClause", desc := "(I)V" } : Jvm.MethodName)) ∈ sf_TB := sf_in3 137 rfl rfl
set_option maxRecDepth 20000 in
theorem sw_618 : (Jvm.Cond.selects "SplitFares$Program" ({ cls := "SplitFares$Program", name := "openClause", desc := "(I)V" } : Jvm.MethodName) ({ cls := "SplitFares$Program", name := "openClause", desc := "(I)V" } : Jvm.MethodName)) ∈ sf_TB := sf_in3 138 rfl rfl
set_option maxRecDepth 20000 in
theorem sw_619 : (Jvm.Cond.code ({ cls := "SplitFares$Program", name := "openClause", desc := "(I)V" } : Jvm.MethodName) prog_7_method_4_code (2 : Nat) (Option.none : Option Jvm.ClassFile.FieldType)) ∈ sf_TB := sf_in3 139 rfl rfl
set_option maxRecDepth 20000 in
theorem sw_620 : (Jvm.Cond.methodLink "SplitFares$Program" (34 : Nat) ({ cls := "SplitFares$Program", name := "note", desc := "(II)V" } : Jvm.MethodName)) ∈ sf_TB := sf_in3 140 rfl rfl
set_option maxRecDepth 20000 in
theorem sw_621 : (Jvm.Cond.instanceMethod ({ cls := "SplitFares$Program", name := "note", desc := "(II)V" } : Jvm.MethodName)) ∈ sf_TB := sf_in3 141 rfl rfl
set_option maxRecDepth 20000 in
theorem sw_622 : (Jvm.Cond.selects "SplitFares$Program" ({ cls := "SplitFares$Program", name := "note", desc := "(II)V" } : Jvm.MethodName) ({ cls := "SplitFares$Program", name := "note", desc := "(II)V" } : Jvm.MethodName)) ∈ sf_TB := sf_in3 142 rfl rfl
set_option maxRecDepth 20000 in
theorem sw_623 : (Jvm.Cond.code ({ cls := "SplitFares$Program", name := "note", desc := "(II)V" } : Jvm.MethodName) prog_7_method_7_code (4 : Nat) (Option.none : Option Jvm.ClassFile.FieldType)) ∈ sf_TB := sf_in3 143 rfl rfl
set_option maxRecDepth 20000 in
theorem sw_624 : (Jvm.Cond.methodLink "SplitFares$Program" (38 : Nat) ({ cls := "SplitFares$Program", name := "mark", desc := "(I)V" } : Jvm.MethodName)) ∈ sf_TB := sf_in3 144 rfl rfl
set_option maxRecDepth 20000 in
theorem sw_625 : (Jvm.Cond.instanceMethod ({ cls := "SplitFares$Program", name := "mark", desc := "(I)V" } : Jvm.MethodName)) ∈ sf_TB := sf_in3 145 rfl rfl
set_option maxRecDepth 20000 in
theorem sw_626 : (Jvm.Cond.selects "SplitFares$Program" ({ cls := "SplitFares$Program", name := "mark", desc := "(I)V" } : Jvm.MethodName) ({ cls := "SplitFares$Program", name := "mark", desc := "(I)V" } : Jvm.MethodName)) ∈ sf_TB := sf_in3 146 rfl rfl
set_option maxRecDepth 20000 in
theorem sw_627 : (Jvm.Cond.code ({ cls := "SplitFares$Program", name := "mark", desc := "(I)V" } : Jvm.MethodName) prog_7_method_5_code (2 : Nat) (Option.none : Option Jvm.ClassFile.FieldType)) ∈ sf_TB := sf_in3 147 rfl rfl
set_option maxRecDepth 20000 in
theorem sw_628 : (Jvm.Cond.methodLink "SplitFares$Reader" (82 : Nat) ({ cls := "SplitFares$Reader", name := "readSum", desc := "(LSplitFares$Reader;II)Z" } : Jvm.MethodName)) ∈ sf_TB := sf_in3 148 rfl rfl
set_option maxRecDepth 20000 in
theorem sw_629 : (Jvm.Cond.static ({ cls := "SplitFares$Reader", name := "readSum", desc := "(LSplitFares$Reader;II)Z" } : Jvm.MethodName)) ∈ sf_TB := sf_in3 149 rfl rfl
set_option maxRecDepth 20000 in
theorem sw_630 : (Jvm.Cond.code ({ cls := "SplitFares$Reader", name := "readSum", desc := "(LSplitFares$Reader;II)Z" } : Jvm.MethodName) prog_8_method_11_code (7 : Nat) (Option.some Jvm.ClassFile.FieldType.boolean)) ∈ sf_TB := sf_in3 150 rfl rfl
set_option maxRecDepth 20000 in
theorem sw_631 : (Jvm.Cond.methodLink "SplitFares$Reader" (134 : Nat) ({ cls := "SplitFares$Reader", name := "signOf", desc := "(I)I" } : Jvm.MethodName)) ∈ sf_TB := sf_in3 151 rfl rfl
set_option maxRecDepth 20000 in
theorem sw_633 : (Jvm.Cond.instanceMethod ({ cls := "SplitFares$Reader", name := "signOf", desc := "(I)I" } : Jvm.MethodName)) ∈ sf_TB := sf_in3 153 rfl rfl
set_option maxRecDepth 20000 in
theorem sw_634 : (Jvm.Cond.code ({ cls := "SplitFares$Reader", name := "signOf", desc := "(I)I" } : Jvm.MethodName) prog_8_method_12_code (2 : Nat) (Option.some Jvm.ClassFile.FieldType.int)) ∈ sf_TB := sf_in3 154 rfl rfl
set_option maxRecDepth 20000 in
theorem sw_635 : (Jvm.Cond.methodLink "SplitFares$Reader" (70 : Nat) ({ cls := "SplitFares$Tokens", name := "isSign", desc := "(C)Z" } : Jvm.MethodName)) ∈ sf_TB := sf_in3 155 rfl rfl
set_option maxRecDepth 20000 in
theorem sw_636 : (Jvm.Cond.instanceMethod ({ cls := "SplitFares$Tokens", name := "isSign", desc := "(C)Z" } : Jvm.MethodName)) ∈ sf_TB := sf_in3 156 rfl rfl
set_option maxRecDepth 20000 in
theorem sw_637 : (Jvm.Cond.selects "SplitFares$Tokens" ({ cls := "SplitFares$Tokens", name := "isSign", desc := "(C)Z" } : Jvm.MethodName) ({ cls := "SplitFares$Tokens", name := "isSign", desc := "(C)Z" } : Jvm.MethodName)) ∈ sf_TB := sf_in3 157 rfl rfl
set_option maxRecDepth 20000 in
theorem sw_638 : (Jvm.Cond.code ({ cls := "SplitFares$Tokens", name := "isSign", desc := "(C)Z" } : Jvm.MethodName) prog_10_method_9_code (2 : Nat) (Option.some Jvm.ClassFile.FieldType.boolean)) ∈ sf_TB := sf_in3 158 rfl rfl
set_option maxRecDepth 20000 in
theorem sw_639 : (Jvm.Cond.methodLink "SplitFares$Reader" (119 : Nat) ({ cls := "SplitFares$Program", name := "put", desc := "(II)I" } : Jvm.MethodName)) ∈ sf_TB := sf_in3 159 rfl rfl
set_option maxRecDepth 20000 in
theorem sw_640 : (Jvm.Cond.instanceMethod ({ cls := "SplitFares$Program", name := "put", desc := "(II)I" } : Jvm.MethodName)) ∈ sf_TB := sf_in3 160 rfl rfl
set_option maxRecDepth 20000 in
theorem sw_641 : (Jvm.Cond.selects "SplitFares$Program" ({ cls := "SplitFares$Program", name := "put", desc := "(II)I" } : Jvm.MethodName) ({ cls := "SplitFares$Program", name := "put", desc := "(II)I" } : Jvm.MethodName)) ∈ sf_TB := sf_in3 161 rfl rfl
set_option maxRecDepth 20000 in
theorem sw_642 : (Jvm.Cond.code ({ cls := "SplitFares$Program", name := "put", desc := "(II)I" } : Jvm.MethodName) prog_7_method_9_code (3 : Nat) (Option.some Jvm.ClassFile.FieldType.int)) ∈ sf_TB := sf_in3 162 rfl rfl
set_option maxRecDepth 20000 in
theorem sw_643 : (Jvm.Cond.methodLink "SplitFares$Reader" (138 : Nat) ({ cls := "SplitFares$Reader", name := "readNumberOrWord", desc := "()Z" } : Jvm.MethodName)) ∈ sf_TB := sf_in3 163 rfl rfl
set_option maxRecDepth 20000 in
theorem sw_645 : (Jvm.Cond.instanceMethod ({ cls := "SplitFares$Reader", name := "readNumberOrWord", desc := "()Z" } : Jvm.MethodName)) ∈ sf_TB := sf_in3 165 rfl rfl
set_option maxRecDepth 20000 in
theorem sw_646 : (Jvm.Cond.code ({ cls := "SplitFares$Reader", name := "readNumberOrWord", desc := "()Z" } : Jvm.MethodName) prog_8_method_13_code (4 : Nat) (Option.some Jvm.ClassFile.FieldType.boolean)) ∈ sf_TB := sf_in3 166 rfl rfl
set_option maxRecDepth 20000 in
theorem sw_647 : (Jvm.Cond.methodLink "SplitFares$Reader" (108 : Nat) ({ cls := "SplitFares$Tokens", name := "number", desc := "()I" } : Jvm.MethodName)) ∈ sf_TB := sf_in3 167 rfl rfl
set_option maxRecDepth 20000 in
theorem sw_648 : (Jvm.Cond.instanceMethod ({ cls := "SplitFares$Tokens", name := "number", desc := "()I" } : Jvm.MethodName)) ∈ sf_TB := sf_in3 168 rfl rfl
set_option maxRecDepth 20000 in
theorem sw_649 : (Jvm.Cond.selects "SplitFares$Tokens" ({ cls := "SplitFares$Tokens", name := "number", desc := "()I" } : Jvm.MethodName) ({ cls := "SplitFares$Tokens", name := "number", desc := "()I" } : Jvm.MethodName)) ∈ sf_TB := sf_in3 169 rfl rfl
set_option maxRecDepth 20000 in
theorem sw_650 : (Jvm.Cond.code ({ cls := "SplitFares$Tokens", name := "number", desc := "()I" } : Jvm.MethodName) prog_10_method_11_code (3 : Nat) (Option.some Jvm.ClassFile.FieldType.int)) ∈ sf_TB := sf_in3 170 rfl rfl
set_option maxRecDepth 20000 in
theorem sw_651 : (Jvm.Cond.constant "SplitFares$Tokens" (74 : Nat) (1000000 : Int32)) ∈ sf_TB := sf_in3 171 rfl rfl
set_option maxRecDepth 20000 in
theorem sw_652 : (Jvm.Cond.methodLink "SplitFares$Reader" (141 : Nat) ({ cls := "SplitFares$Reader", name := "orderWord", desc := "()I" } : Jvm.MethodName)) ∈ sf_TB := sf_in3 172 rfl rfl
set_option maxRecDepth 20000 in
theorem sw_654 : (Jvm.Cond.instanceMethod ({ cls := "SplitFares$Reader", name := "orderWord", desc := "()I" } : Jvm.MethodName)) ∈ sf_TB := sf_in3 174 rfl rfl
set_option maxRecDepth 20000 in
theorem sw_655 : (Jvm.Cond.code ({ cls := "SplitFares$Reader", name := "orderWord", desc := "()I" } : Jvm.MethodName) prog_8_method_15_code (1 : Nat) (Option.some Jvm.ClassFile.FieldType.int)) ∈ sf_TB := sf_in3 175 rfl rfl
set_option maxRecDepth 20000 in
theorem sw_663 : (Jvm.Cond.methodLink "SplitFares$Reader" (144 : Nat) ({ cls := "SplitFares$Reader", name := "lawWord", desc := "()I" } : Jvm.MethodName)) ∈ sf_TB := sf_in3 183 rfl rfl
set_option maxRecDepth 20000 in
theorem sw_665 : (Jvm.Cond.instanceMethod ({ cls := "SplitFares$Reader", name := "lawWord", desc := "()I" } : Jvm.MethodName)) ∈ sf_TB := sf_in3 185 rfl rfl
set_option maxRecDepth 20000 in
theorem sw_666 : (Jvm.Cond.code ({ cls := "SplitFares$Reader", name := "lawWord", desc := "()I" } : Jvm.MethodName) prog_8_method_14_code (1 : Nat) (Option.some Jvm.ClassFile.FieldType.int)) ∈ sf_TB := sf_in3 186 rfl rfl
set_option maxRecDepth 20000 in
theorem sw_672 : (Jvm.Cond.methodLink "SplitFares$Reader" (85 : Nat) ({ cls := "SplitFares$Program", name := "mark", desc := "(I)V" } : Jvm.MethodName)) ∈ sf_TB := sf_in3 192 rfl rfl
set_option maxRecDepth 20000 in
theorem sw_673 : (Jvm.Cond.methodLink "SplitFares$Reader" (93 : Nat) ({ cls := "SplitFares$Reader", name := "readTimes", desc := "()Z" } : Jvm.MethodName)) ∈ sf_TB := sf_in3 193 rfl rfl
set_option maxRecDepth 20000 in
theorem sw_675 : (Jvm.Cond.instanceMethod ({ cls := "SplitFares$Reader", name := "readTimes", desc := "()Z" } : Jvm.MethodName)) ∈ sf_TB := sf_in3 195 rfl rfl
set_option maxRecDepth 20000 in
theorem sw_676 : (Jvm.Cond.code ({ cls := "SplitFares$Reader", name := "readTimes", desc := "()Z" } : Jvm.MethodName) prog_8_method_7_code (2 : Nat) (Option.some Jvm.ClassFile.FieldType.boolean)) ∈ sf_TB := sf_in3 196 rfl rfl
set_option maxRecDepth 20000 in
theorem sw_678 : (Jvm.Cond.methodLink "SplitFares$Reader" (111 : Nat) ({ cls := "SplitFares$Program", name := "note", desc := "(II)V" } : Jvm.MethodName)) ∈ sf_TB := sf_in3 198 rfl rfl
set_option maxRecDepth 20000 in
theorem sw_679 : (Jvm.Cond.methodLink "SplitFares$Reader" (48 : Nat) ({ cls := "SplitFares$Reader", name := "readLawClause", desc := "()Z" } : Jvm.MethodName)) ∈ sf_TB := sf_in3 199 rfl rfl
set_option maxRecDepth 20000 in
theorem sw_681 : (Jvm.Cond.instanceMethod ({ cls := "SplitFares$Reader", name := "readLawClause", desc := "()Z" } : Jvm.MethodName)) ∈ sf_TB := sf_in3 201 rfl rfl
set_option maxRecDepth 20000 in
theorem sw_682 : (Jvm.Cond.code ({ cls := "SplitFares$Reader", name := "readLawClause", desc := "()Z" } : Jvm.MethodName) prog_8_method_4_code (2 : Nat) (Option.some Jvm.ClassFile.FieldType.boolean)) ∈ sf_TB := sf_in3 202 rfl rfl
set_option maxRecDepth 20000 in
theorem sw_686 : (Jvm.Cond.methodLink "SplitFares$Reader" (60 : Nat) ({ cls := "SplitFares$Reader", name := "readTest", desc := "(LSplitFares$Reader;II)Z" } : Jvm.MethodName)) ∈ sf_TB := sf_in3 206 rfl rfl
set_option maxRecDepth 20000 in
theorem sw_687 : (Jvm.Cond.static ({ cls := "SplitFares$Reader", name := "readTest", desc := "(LSplitFares$Reader;II)Z" } : Jvm.MethodName)) ∈ sf_TB := sf_in3 207 rfl rfl
set_option maxRecDepth 20000 in
theorem sw_688 : (Jvm.Cond.code ({ cls := "SplitFares$Reader", name := "readTest", desc := "(LSplitFares$Reader;II)Z" } : Jvm.MethodName) prog_8_method_8_code (8 : Nat) (Option.some Jvm.ClassFile.FieldType.boolean)) ∈ sf_TB := sf_in3 208 rfl rfl
set_option maxRecDepth 20000 in
theorem sw_691 : (Jvm.Cond.methodLink "SplitFares$Reader" (123 : Nat) ({ cls := "SplitFares$Program", name := "aim", desc := "(I)V" } : Jvm.MethodName)) ∈ sf_TB := sf_in3 211 rfl rfl
set_option maxRecDepth 20000 in
theorem sw_692 : (Jvm.Cond.instanceMethod ({ cls := "SplitFares$Program", name := "aim", desc := "(I)V" } : Jvm.MethodName)) ∈ sf_TB := sf_in3 212 rfl rfl
set_option maxRecDepth 20000 in
theorem sw_693 : (Jvm.Cond.selects "SplitFares$Program" ({ cls := "SplitFares$Program", name := "aim", desc := "(I)V" } : Jvm.MethodName) ({ cls := "SplitFares$Program", name := "aim", desc := "(I)V" } : Jvm.MethodName)) ∈ sf_TB := sf_in3 213 rfl rfl
set_option maxRecDepth 20000 in
theorem sw_694 : (Jvm.Cond.code ({ cls := "SplitFares$Program", name := "aim", desc := "(I)V" } : Jvm.MethodName) prog_7_method_10_code (2 : Nat) (Option.none : Option Jvm.ClassFile.FieldType)) ∈ sf_TB := sf_in3 214 rfl rfl
set_option maxRecDepth 20000 in
theorem sw_695 : (Jvm.Cond.methodLink "SplitFares$Reader" (126 : Nat) ({ cls := "SplitFares$Reader", name := "readNots", desc := "()Z" } : Jvm.MethodName)) ∈ sf_TB := sf_in3 215 rfl rfl
set_option maxRecDepth 20000 in
theorem sw_697 : (Jvm.Cond.instanceMethod ({ cls := "SplitFares$Reader", name := "readNots", desc := "()Z" } : Jvm.MethodName)) ∈ sf_TB := sf_in3 217 rfl rfl
set_option maxRecDepth 20000 in
theorem sw_698 : (Jvm.Cond.code ({ cls := "SplitFares$Reader", name := "readNots", desc := "()Z" } : Jvm.MethodName) prog_8_method_9_code (3 : Nat) (Option.some Jvm.ClassFile.FieldType.boolean)) ∈ sf_TB := sf_in3 218 rfl rfl
set_option maxRecDepth 20000 in
theorem sw_700 : (Jvm.Cond.methodLink "SplitFares$Reader" (129 : Nat) ({ cls := "SplitFares$Reader", name := "comparison", desc := "()I" } : Jvm.MethodName)) ∈ sf_TB := sf_in3 220 rfl rfl
set_option maxRecDepth 20000 in
theorem sw_702 : (Jvm.Cond.instanceMethod ({ cls := "SplitFares$Reader", name := "comparison", desc := "()I" } : Jvm.MethodName)) ∈ sf_TB := sf_in3 222 rfl rfl
set_option maxRecDepth 20000 in
theorem sw_703 : (Jvm.Cond.code ({ cls := "SplitFares$Reader", name := "comparison", desc := "()I" } : Jvm.MethodName) prog_8_method_10_code (1 : Nat) (Option.some Jvm.ClassFile.FieldType.int)) ∈ sf_TB := sf_in3 223 rfl rfl
set_option maxRecDepth 20000 in
theorem sw_704 : (Jvm.Cond.methodLink "SplitFares$Reader" (64 : Nat) ({ cls := "SplitFares$Program", name := "closeClause", desc := "()V" } : Jvm.MethodName)) ∈ sf_TB := sf_in3 224 rfl rfl
set_option maxRecDepth 20000 in
theorem sw_705 : (Jvm.Cond.instanceMethod ({ cls := "SplitFares$Program", name := "closeClause", desc := "()V" } : Jvm.MethodName)) ∈ sf_TB := sf_in3 225 rfl rfl
set_option maxRecDepth 20000 in
theorem sw_706 : (Jvm.Cond.selects "SplitFares$Program" ({ cls := "SplitFares$Program", name := "closeClause", desc := "()V" } : Jvm.MethodName) ({ cls := "SplitFares$Program", name := "closeClause", desc := "()V" } : Jvm.MethodName)) ∈ sf_TB := sf_in3 226 rfl rfl
set_option maxRecDepth 20000 in
theorem sw_707 : (Jvm.Cond.code ({ cls := "SplitFares$Program", name := "closeClause", desc := "()V" } : Jvm.MethodName) prog_7_method_6_code (1 : Nat) (Option.none : Option Jvm.ClassFile.FieldType)) ∈ sf_TB := sf_in3 227 rfl rfl
set_option maxRecDepth 20000 in
theorem sw_708 : (Jvm.Cond.methodLink "SplitFares$Reader" (67 : Nat) ({ cls := "SplitFares$Tokens", name := "isEnd", desc := "()Z" } : Jvm.MethodName)) ∈ sf_TB := sf_in3 228 rfl rfl
set_option maxRecDepth 20000 in
theorem sw_709 : (Jvm.Cond.instanceMethod ({ cls := "SplitFares$Tokens", name := "isEnd", desc := "()Z" } : Jvm.MethodName)) ∈ sf_TB := sf_in3 229 rfl rfl
set_option maxRecDepth 20000 in
theorem sw_710 : (Jvm.Cond.selects "SplitFares$Tokens" ({ cls := "SplitFares$Tokens", name := "isEnd", desc := "()Z" } : Jvm.MethodName) ({ cls := "SplitFares$Tokens", name := "isEnd", desc := "()Z" } : Jvm.MethodName)) ∈ sf_TB := sf_in3 230 rfl rfl
set_option maxRecDepth 20000 in
theorem sw_711 : (Jvm.Cond.code ({ cls := "SplitFares$Tokens", name := "isEnd", desc := "()Z" } : Jvm.MethodName) prog_10_method_8_code (1 : Nat) (Option.some Jvm.ClassFile.FieldType.boolean)) ∈ sf_TB := sf_in3 231 rfl rfl
set_option maxRecDepth 20000 in
theorem sw_712 : (Jvm.Cond.methodLink "SplitFares" (158 : Nat) ({ cls := "SplitFares", name := "settleText", desc := "(Z)Z" } : Jvm.MethodName)) ∈ sf_TB := sf_in3 232 rfl rfl
set_option maxRecDepth 20000 in
theorem sw_714 : (Jvm.Cond.instanceMethod ({ cls := "SplitFares", name := "settleText", desc := "(Z)Z" } : Jvm.MethodName)) ∈ sf_TB := sf_in3 234 rfl rfl
set_option maxRecDepth 20000 in
theorem sw_715 : (Jvm.Cond.code ({ cls := "SplitFares", name := "settleText", desc := "(Z)Z" } : Jvm.MethodName) prog_1_method_50_code (2 : Nat) (Option.some Jvm.ClassFile.FieldType.boolean)) ∈ sf_TB := sf_in3 235 rfl rfl
set_option maxRecDepth 20000 in
theorem sw_716 : (Jvm.Cond.methodLink "SplitFares" (313 : Nat) ({ cls := "SplitFares$Reader", name := "place", desc := "()I" } : Jvm.MethodName)) ∈ sf_TB := sf_in3 236 rfl rfl
set_option maxRecDepth 20000 in
theorem sw_717 : (Jvm.Cond.instanceMethod ({ cls := "SplitFares$Reader", name := "place", desc := "()I" } : Jvm.MethodName)) ∈ sf_TB := sf_in3 237 rfl rfl
set_option maxRecDepth 20000 in
theorem sw_718 : (Jvm.Cond.selects "SplitFares$Reader" ({ cls := "SplitFares$Reader", name := "place", desc := "()I" } : Jvm.MethodName) ({ cls := "SplitFares$Reader", name := "place", desc := "()I" } : Jvm.MethodName)) ∈ sf_TB := sf_in3 238 rfl rfl
set_option maxRecDepth 20000 in
theorem sw_719 : (Jvm.Cond.code ({ cls := "SplitFares$Reader", name := "place", desc := "()I" } : Jvm.MethodName) prog_8_method_2_code (1 : Nat) (Option.some Jvm.ClassFile.FieldType.int)) ∈ sf_TB := sf_in3 239 rfl rfl
set_option maxRecDepth 20000 in
theorem sw_720 : (Jvm.Cond.methodLink "SplitFares$Reader" (33 : Nat) ({ cls := "SplitFares$Tokens", name := "place", desc := "()I" } : Jvm.MethodName)) ∈ sf_TB := sf_in4 0 rfl rfl
set_option maxRecDepth 20000 in
theorem sw_721 : (Jvm.Cond.instanceMethod ({ cls := "SplitFares$Tokens", name := "place", desc := "()I" } : Jvm.MethodName)) ∈ sf_TB := sf_in4 1 rfl rfl
set_option maxRecDepth 20000 in
theorem sw_722 : (Jvm.Cond.selects "SplitFares$Tokens" ({ cls := "SplitFares$Tokens", name := "place", desc := "()I" } : Jvm.MethodName) ({ cls := "SplitFares$Tokens", name := "place", desc := "()I" } : Jvm.MethodName)) ∈ sf_TB := sf_in4 2 rfl rfl
set_option maxRecDepth 20000 in
theorem sw_723 : (Jvm.Cond.code ({ cls := "SplitFares$Tokens", name := "place", desc := "()I" } : Jvm.MethodName) prog_10_method_6_code (1 : Nat) (Option.some Jvm.ClassFile.FieldType.int)) ∈ sf_TB := sf_in4 3 rfl rfl
set_option maxRecDepth 20000 in
theorem sw_724 : (Jvm.Cond.classLink "SplitFares" (162 : Nat) "SplitFares$Program") ∈ sf_TB := sf_in4 4 rfl rfl
set_option maxRecDepth 20000 in
theorem sw_726 : (Jvm.Cond.methodLink "SplitFares" (169 : Nat) ({ cls := "SplitFares$Program", name := "copyFrom", desc := "(LSplitFares$Program;)V" } : Jvm.MethodName)) ∈ sf_TB := sf_in4 6 rfl rfl
set_option maxRecDepth 20000 in
theorem sw_727 : (Jvm.Cond.instanceMethod ({ cls := "SplitFares$Program", name := "copyFrom", desc := "(LSplitFares$Program;)V" } : Jvm.MethodName)) ∈ sf_TB := sf_in4 7 rfl rfl
set_option maxRecDepth 20000 in
theorem sw_728 : (Jvm.Cond.selects "SplitFares$Program" ({ cls := "SplitFares$Program", name := "copyFrom", desc := "(LSplitFares$Program;)V" } : Jvm.MethodName) ({ cls := "SplitFares$Program", name := "copyFrom", desc := "(LSplitFares$Program;)V" } : Jvm.MethodName)) ∈ sf_TB := sf_in4 8 rfl rfl
set_option maxRecDepth 20000 in
theorem sw_729 : (Jvm.Cond.code ({ cls := "SplitFares$Program", name := "copyFrom", desc := "(LSplitFares$Program;)V" } : Jvm.MethodName) prog_7_method_3_code (2 : Nat) (Option.none : Option Jvm.ClassFile.FieldType)) ∈ sf_TB := sf_in4 9 rfl rfl
set_option maxRecDepth 20000 in
theorem sw_730 : (Jvm.Cond.methodLink "SplitFares$Program" (28 : Nat) ({ cls := "java/lang/System", name := "arraycopy", desc := "(Ljava/lang/Object;ILjava/lang/Object;II)V" } : Jvm.MethodName)) ∈ sf_TB := sf_in4 10 rfl rfl
set_option maxRecDepth 20000 in
theorem sw_731 : (Jvm.Cond.static ({ cls := "java/lang/System", name := "arraycopy", desc := "(Ljava/lang/Object;ILjava/lang/Object;II)V" } : Jvm.MethodName)) ∈ sf_TB := sf_in4 11 rfl rfl
set_option maxRecDepth 20000 in
theorem sw_732 : (Jvm.Cond.native ({ cls := "java/lang/System", name := "arraycopy", desc := "(Ljava/lang/Object;ILjava/lang/Object;II)V" } : Jvm.MethodName)) ∈ sf_TB := sf_in4 12 rfl rfl
set_option maxRecDepth 20000 in
theorem sw_733 : (Jvm.Cond.methodLink "SplitFares" (173 : Nat) ({ cls := "SplitFares$Office", name := "addLaw", desc := "(LSplitFares$Program;)I" } : Jvm.MethodName)) ∈ sf_TB := sf_in4 13 rfl rfl
set_option maxRecDepth 20000 in
theorem sw_734 : (Jvm.Cond.instanceMethod ({ cls := "SplitFares$Office", name := "addLaw", desc := "(LSplitFares$Program;)I" } : Jvm.MethodName)) ∈ sf_TB := sf_in4 14 rfl rfl
set_option maxRecDepth 20000 in
theorem sw_735 : (Jvm.Cond.selects "SplitFares$Office" ({ cls := "SplitFares$Office", name := "addLaw", desc := "(LSplitFares$Program;)I" } : Jvm.MethodName) ({ cls := "SplitFares$Office", name := "addLaw", desc := "(LSplitFares$Program;)I" } : Jvm.MethodName)) ∈ sf_TB := sf_in4 15 rfl rfl
set_option maxRecDepth 20000 in
theorem sw_736 : (Jvm.Cond.code ({ cls := "SplitFares$Office", name := "addLaw", desc := "(LSplitFares$Program;)I" } : Jvm.MethodName) prog_5_method_10_code (2 : Nat) (Option.some Jvm.ClassFile.FieldType.int)) ∈ sf_TB := sf_in4 16 rfl rfl
set_option maxRecDepth 20000 in
theorem sw_737 : (Jvm.Cond.arrayClass Jvm.ClassFile.FieldType.byte) ∈ sf_TB := sf_in4 17 rfl rfl
set_option maxRecDepth 20000 in
theorem sw_738 : (Jvm.Cond.methodLink "SplitFaresLaw" (63 : Nat) ({ cls := "SplitFares", name := "orders", desc := "()I" } : Jvm.MethodName)) ∈ sf_TB := sf_in4 18 rfl rfl
set_option maxRecDepth 20000 in
theorem sw_739 : (Jvm.Cond.instanceMethod ({ cls := "SplitFares", name := "orders", desc := "()I" } : Jvm.MethodName)) ∈ sf_TB := sf_in4 19 rfl rfl
set_option maxRecDepth 20000 in
theorem sw_740 : (Jvm.Cond.selects "SplitFares" ({ cls := "SplitFares", name := "orders", desc := "()I" } : Jvm.MethodName) ({ cls := "SplitFares", name := "orders", desc := "()I" } : Jvm.MethodName)) ∈ sf_TB := sf_in4 20 rfl rfl
set_option maxRecDepth 20000 in
theorem sw_741 : (Jvm.Cond.code ({ cls := "SplitFares", name := "orders", desc := "()I" } : Jvm.MethodName) prog_1_method_13_code (3 : Nat) (Option.some Jvm.ClassFile.FieldType.int)) ∈ sf_TB := sf_in4 21 rfl rfl
set_option maxRecDepth 20000 in
theorem sw_742 : (Jvm.Cond.methodLink "SplitFares" (177 : Nat) ({ cls := "SplitFares$Desk", name := "begin", desc := "()V" } : Jvm.MethodName)) ∈ sf_TB := sf_in4 22 rfl rfl
set_option maxRecDepth 20000 in
theorem sw_743 : (Jvm.Cond.instanceMethod ({ cls := "SplitFares$Desk", name := "begin", desc := "()V" } : Jvm.MethodName)) ∈ sf_TB := sf_in4 23 rfl rfl
set_option maxRecDepth 20000 in
theorem sw_744 : (Jvm.Cond.selects "SplitFares$Desk" ({ cls := "SplitFares$Desk", name := "begin", desc := "()V" } : Jvm.MethodName) ({ cls := "SplitFares$Desk", name := "begin", desc := "()V" } : Jvm.MethodName)) ∈ sf_TB := sf_in4 24 rfl rfl
set_option maxRecDepth 20000 in
theorem sw_745 : (Jvm.Cond.code ({ cls := "SplitFares$Desk", name := "begin", desc := "()V" } : Jvm.MethodName) prog_2_method_6_code (1 : Nat) (Option.none : Option Jvm.ClassFile.FieldType)) ∈ sf_TB := sf_in4 25 rfl rfl
set_option maxRecDepth 20000 in
theorem sw_746 : (Jvm.Cond.methodLink "SplitFares$Desk" (118 : Nat) ({ cls := "SplitFares$Pocket", name := "copyFrom", desc := "(LSplitFares$Pocket;)V" } : Jvm.MethodName)) ∈ sf_TB := sf_in4 26 rfl rfl
set_option maxRecDepth 20000 in
theorem sw_747 : (Jvm.Cond.instanceMethod ({ cls := "SplitFares$Pocket", name := "copyFrom", desc := "(LSplitFares$Pocket;)V" } : Jvm.MethodName)) ∈ sf_TB := sf_in4 27 rfl rfl
set_option maxRecDepth 20000 in
theorem sw_748 : (Jvm.Cond.selects "SplitFares$Pocket" ({ cls := "SplitFares$Pocket", name := "copyFrom", desc := "(LSplitFares$Pocket;)V" } : Jvm.MethodName) ({ cls := "SplitFares$Pocket", name := "copyFrom", desc := "(LSplitFares$Pocket;)V" } : Jvm.MethodName)) ∈ sf_TB := sf_in4 28 rfl rfl
set_option maxRecDepth 20000 in
theorem sw_749 : (Jvm.Cond.code ({ cls := "SplitFares$Pocket", name := "copyFrom", desc := "(LSplitFares$Pocket;)V" } : Jvm.MethodName) prog_6_method_2_code (2 : Nat) (Option.none : Option Jvm.ClassFile.FieldType)) ∈ sf_TB := sf_in4 29 rfl rfl
set_option maxRecDepth 20000 in
theorem sw_750 : (Jvm.Cond.methodLink "SplitFares$Pocket" (25 : Nat) ({ cls := "java/lang/System", name := "arraycopy", desc := "(Ljava/lang/Object;ILjava/lang/Object;II)V" } : Jvm.MethodName)) ∈ sf_TB := sf_in4 30 rfl rfl
set_option maxRecDepth 20000 in
theorem sw_751 : (Jvm.Cond.methodLink "SplitFares$Desk" (122 : Nat) ({ cls := "SplitFares$Log", name := "copyFrom", desc := "(LSplitFares$Log;)V" } : Jvm.MethodName)) ∈ sf_TB := sf_in4 31 rfl rfl
set_option maxRecDepth 20000 in
theorem sw_752 : (Jvm.Cond.instanceMethod ({ cls := "SplitFares$Log", name := "copyFrom", desc := "(LSplitFares$Log;)V" } : Jvm.MethodName)) ∈ sf_TB := sf_in4 32 rfl rfl
set_option maxRecDepth 20000 in
theorem sw_753 : (Jvm.Cond.selects "SplitFares$Log" ({ cls := "SplitFares$Log", name := "copyFrom", desc := "(LSplitFares$Log;)V" } : Jvm.MethodName) ({ cls := "SplitFares$Log", name := "copyFrom", desc := "(LSplitFares$Log;)V" } : Jvm.MethodName)) ∈ sf_TB := sf_in4 33 rfl rfl
set_option maxRecDepth 20000 in
theorem sw_754 : (Jvm.Cond.code ({ cls := "SplitFares$Log", name := "copyFrom", desc := "(LSplitFares$Log;)V" } : Jvm.MethodName) prog_3_method_5_code (5 : Nat) (Option.none : Option Jvm.ClassFile.FieldType)) ∈ sf_TB := sf_in4 34 rfl rfl
set_option maxRecDepth 20000 in
theorem sw_755 : (Jvm.Cond.methodLink "SplitFares$Log" (35 : Nat) ({ cls := "SplitFares$Pocket", name := "copyFrom", desc := "(LSplitFares$Pocket;)V" } : Jvm.MethodName)) ∈ sf_TB := sf_in4 35 rfl rfl
set_option maxRecDepth 20000 in
theorem sw_756 : (Jvm.Cond.methodLink "SplitFares" (183 : Nat) ({ cls := "SplitFares$Desk", name := "runClause", desc := "(LSplitFares$Program;I)Z" } : Jvm.MethodName)) ∈ sf_TB := sf_in4 36 rfl rfl
set_option maxRecDepth 20000 in
theorem sw_757 : (Jvm.Cond.instanceMethod ({ cls := "SplitFares$Desk", name := "runClause", desc := "(LSplitFares$Program;I)Z" } : Jvm.MethodName)) ∈ sf_TB := sf_in4 37 rfl rfl
set_option maxRecDepth 20000 in
theorem sw_758 : (Jvm.Cond.selects "SplitFares$Desk" ({ cls := "SplitFares$Desk", name := "runClause", desc := "(LSplitFares$Program;I)Z" } : Jvm.MethodName) ({ cls := "SplitFares$Desk", name := "runClause", desc := "(LSplitFares$Program;I)Z" } : Jvm.MethodName)) ∈ sf_TB := sf_in4 38 rfl rfl
set_option maxRecDepth 20000 in
theorem sw_759 : (Jvm.Cond.code ({ cls := "SplitFares$Desk", name := "runClause", desc := "(LSplitFares$Program;I)Z" } : Jvm.MethodName) prog_2_method_8_code (9 : Nat) (Option.some Jvm.ClassFile.FieldType.boolean)) ∈ sf_TB := sf_in4 39 rfl rfl
set_option maxRecDepth 20000 in
theorem sw_760 : (Jvm.Cond.methodLink "SplitFares$Desk" (125 : Nat) ({ cls := "SplitFares$Program", name := "noted", desc := "(II)I" } : Jvm.MethodName)) ∈ sf_TB := sf_in4 40 rfl rfl
set_option maxRecDepth 20000 in
theorem sw_761 : (Jvm.Cond.methodLink "SplitFares$Desk" (130 : Nat) ({ cls := "SplitFares$Desk", name := "tellWords", desc := "()V" } : Jvm.MethodName)) ∈ sf_TB := sf_in4 41 rfl rfl
set_option maxRecDepth 20000 in
theorem sw_763 : (Jvm.Cond.instanceMethod ({ cls := "SplitFares$Desk", name := "tellWords", desc := "()V" } : Jvm.MethodName)) ∈ sf_TB := sf_in4 43 rfl rfl
set_option maxRecDepth 20000 in
theorem sw_764 : (Jvm.Cond.code ({ cls := "SplitFares$Desk", name := "tellWords", desc := "()V" } : Jvm.MethodName) prog_2_method_9_code (3 : Nat) (Option.none : Option Jvm.ClassFile.FieldType)) ∈ sf_TB := sf_in4 44 rfl rfl
set_option maxRecDepth 20000 in
theorem sw_765 : (Jvm.Cond.methodLink "SplitFares$Desk" (155 : Nat) ({ cls := "SplitFares$Pocket", name := "heldInAll", desc := "()I" } : Jvm.MethodName)) ∈ sf_TB := sf_in4 45 rfl rfl
set_option maxRecDepth 20000 in
theorem sw_766 : (Jvm.Cond.instanceMethod ({ cls := "SplitFares$Pocket", name := "heldInAll", desc := "()I" } : Jvm.MethodName)) ∈ sf_TB := sf_in4 46 rfl rfl
set_option maxRecDepth 20000 in
theorem sw_767 : (Jvm.Cond.selects "SplitFares$Pocket" ({ cls := "SplitFares$Pocket", name := "heldInAll", desc := "()I" } : Jvm.MethodName) ({ cls := "SplitFares$Pocket", name := "heldInAll", desc := "()I" } : Jvm.MethodName)) ∈ sf_TB := sf_in4 47 rfl rfl
set_option maxRecDepth 20000 in
theorem sw_768 : (Jvm.Cond.code ({ cls := "SplitFares$Pocket", name := "heldInAll", desc := "()I" } : Jvm.MethodName) prog_6_method_5_code (6 : Nat) (Option.some Jvm.ClassFile.FieldType.int)) ∈ sf_TB := sf_in4 48 rfl rfl
set_option maxRecDepth 20000 in
theorem sw_769 : (Jvm.Cond.methodLink "SplitFares$Desk" (85 : Nat) ({ cls := "SplitFares$Office", name := "hasTrain", desc := "(I)Z" } : Jvm.MethodName)) ∈ sf_TB := sf_in4 49 rfl rfl
set_option maxRecDepth 20000 in
theorem sw_770 : (Jvm.Cond.methodLink "SplitFares$Desk" (161 : Nat) ({ cls := "java/lang/Integer", name := "bitCount", desc := "(I)I" } : Jvm.MethodName)) ∈ sf_TB := sf_in4 50 rfl rfl
set_option maxRecDepth 20000 in
theorem sw_771 : (Jvm.Cond.methodLink "SplitFares$Desk" (133 : Nat) ({ cls := "SplitFares$Machine", name := "evaluate", desc := "(LSplitFares$Program;II)I" } : Jvm.MethodName)) ∈ sf_TB := sf_in4 51 rfl rfl
set_option maxRecDepth 20000 in
theorem sw_772 : (Jvm.Cond.constant "SplitFares$Desk" (137 : Nat) (-2000000000 : Int32)) ∈ sf_TB := sf_in4 52 rfl rfl
set_option maxRecDepth 20000 in
theorem sw_773 : (Jvm.Cond.methodLink "SplitFares$Desk" (138 : Nat) ({ cls := "SplitFares$Desk", name := "buyTicket", desc := "(III)I" } : Jvm.MethodName)) ∈ sf_TB := sf_in4 53 rfl rfl
set_option maxRecDepth 20000 in
theorem sw_774 : (Jvm.Cond.instanceMethod ({ cls := "SplitFares$Desk", name := "buyTicket", desc := "(III)I" } : Jvm.MethodName)) ∈ sf_TB := sf_in4 54 rfl rfl
set_option maxRecDepth 20000 in
theorem sw_775 : (Jvm.Cond.selects "SplitFares$Desk" ({ cls := "SplitFares$Desk", name := "buyTicket", desc := "(III)I" } : Jvm.MethodName) ({ cls := "SplitFares$Desk", name := "buyTicket", desc := "(III)I" } : Jvm.MethodName)) ∈ sf_TB := sf_in4 55 rfl rfl
set_option maxRecDepth 20000 in
theorem sw_776 : (Jvm.Cond.code ({ cls := "SplitFares$Desk", name := "buyTicket", desc := "(III)I" } : Jvm.MethodName) prog_2_method_2_code (6 : Nat) (Option.some Jvm.ClassFile.FieldType.int)) ∈ sf_TB := sf_in4 56 rfl rfl
set_option maxRecDepth 20000 in
theorem sw_778 : (Jvm.Cond.methodLink "SplitFares$Desk" (63 : Nat) ({ cls := "SplitFares$Office", name := "costOf", desc := "(III)I" } : Jvm.MethodName)) ∈ sf_TB := sf_in4 58 rfl rfl
set_option maxRecDepth 20000 in
theorem sw_779 : (Jvm.Cond.methodLink "SplitFares$Desk" (70 : Nat) ({ cls := "SplitFares$Pocket", name := "heldOf", desc := "(III)I" } : Jvm.MethodName)) ∈ sf_TB := sf_in4 59 rfl rfl
set_option maxRecDepth 20000 in
theorem sw_780 : (Jvm.Cond.methodLink "SplitFares$Desk" (73 : Nat) ({ cls := "SplitFares$Log", name := "push", desc := "(ILSplitFares$Pocket;)V" } : Jvm.MethodName)) ∈ sf_TB := sf_in4 60 rfl rfl
set_option maxRecDepth 20000 in
theorem sw_781 : (Jvm.Cond.instanceMethod ({ cls := "SplitFares$Log", name := "push", desc := "(ILSplitFares$Pocket;)V" } : Jvm.MethodName)) ∈ sf_TB := sf_in4 61 rfl rfl
set_option maxRecDepth 20000 in
theorem sw_782 : (Jvm.Cond.selects "SplitFares$Log" ({ cls := "SplitFares$Log", name := "push", desc := "(ILSplitFares$Pocket;)V" } : Jvm.MethodName) ({ cls := "SplitFares$Log", name := "push", desc := "(ILSplitFares$Pocket;)V" } : Jvm.MethodName)) ∈ sf_TB := sf_in4 62 rfl rfl
set_option maxRecDepth 20000 in
theorem sw_783 : (Jvm.Cond.code ({ cls := "SplitFares$Log", name := "push", desc := "(ILSplitFares$Pocket;)V" } : Jvm.MethodName) prog_3_method_3_code (5 : Nat) (Option.none : Option Jvm.ClassFile.FieldType)) ∈ sf_TB := sf_in4 63 rfl rfl
set_option maxRecDepth 20000 in
theorem sw_784 : (Jvm.Cond.methodLink "SplitFares$Log" (29 : Nat) ({ cls := "java/lang/Math", name := "floorMod", desc := "(II)I" } : Jvm.MethodName)) ∈ sf_TB := sf_in4 64 rfl rfl
set_option maxRecDepth 20000 in
theorem sw_785 : (Jvm.Cond.static ({ cls := "java/lang/Math", name := "floorMod", desc := "(II)I" } : Jvm.MethodName)) ∈ sf_TB := sf_in4 65 rfl rfl
set_option maxRecDepth 20000 in
theorem sw_786 : (Jvm.Cond.code ({ cls := "java/lang/Math", name := "floorMod", desc := "(II)I" } : Jvm.MethodName) prog_15_method_50_code (3 : Nat) (Option.some Jvm.ClassFile.FieldType.int)) ∈ sf_TB := sf_in4 66 rfl rfl
set_option maxRecDepth 20000 in
theorem sw_787 : (Jvm.Cond.methodLink "SplitFares$Desk" (77 : Nat) ({ cls := "SplitFares$Pocket", name := "change", desc := "(IIII)V" } : Jvm.MethodName)) ∈ sf_TB := sf_in4 67 rfl rfl
set_option maxRecDepth 20000 in
theorem sw_788 : (Jvm.Cond.instanceMethod ({ cls := "SplitFares$Pocket", name := "change", desc := "(IIII)V" } : Jvm.MethodName)) ∈ sf_TB := sf_in4 68 rfl rfl
set_option maxRecDepth 20000 in
theorem sw_789 : (Jvm.Cond.selects "SplitFares$Pocket" ({ cls := "SplitFares$Pocket", name := "change", desc := "(IIII)V" } : Jvm.MethodName) ({ cls := "SplitFares$Pocket", name := "change", desc := "(IIII)V" } : Jvm.MethodName)) ∈ sf_TB := sf_in4 69 rfl rfl
set_option maxRecDepth 20000 in
theorem sw_790 : (Jvm.Cond.code ({ cls := "SplitFares$Pocket", name := "change", desc := "(IIII)V" } : Jvm.MethodName) prog_6_method_4_code (6 : Nat) (Option.none : Option Jvm.ClassFile.FieldType)) ∈ sf_TB := sf_in4 70 rfl rfl
set_option maxRecDepth 20000 in
theorem sw_791 : (Jvm.Cond.methodLink "SplitFares$Pocket" (31 : Nat) ({ cls := "java/lang/Math", name := "min", desc := "(II)I" } : Jvm.MethodName)) ∈ sf_TB := sf_in4 71 rfl rfl
set_option maxRecDepth 20000 in
theorem sw_792 : (Jvm.Cond.methodLink "SplitFares$Pocket" (37 : Nat) ({ cls := "java/lang/Math", name := "max", desc := "(II)I" } : Jvm.MethodName)) ∈ sf_TB := sf_in4 72 rfl rfl
set_option maxRecDepth 20000 in
theorem sw_793 : (Jvm.Cond.methodLink "SplitFares$Desk" (141 : Nat) ({ cls := "SplitFares$Desk", name := "rideTrain", desc := "(II)I" } : Jvm.MethodName)) ∈ sf_TB := sf_in4 73 rfl rfl
set_option maxRecDepth 20000 in
theorem sw_794 : (Jvm.Cond.instanceMethod ({ cls := "SplitFares$Desk", name := "rideTrain", desc := "(II)I" } : Jvm.MethodName)) ∈ sf_TB := sf_in4 74 rfl rfl
set_option maxRecDepth 20000 in
theorem sw_795 : (Jvm.Cond.selects "SplitFares$Desk" ({ cls := "SplitFares$Desk", name := "rideTrain", desc := "(II)I" } : Jvm.MethodName) ({ cls := "SplitFares$Desk", name := "rideTrain", desc := "(II)I" } : Jvm.MethodName)) ∈ sf_TB := sf_in4 75 rfl rfl
set_option maxRecDepth 20000 in
theorem sw_796 : (Jvm.Cond.code ({ cls := "SplitFares$Desk", name := "rideTrain", desc := "(II)I" } : Jvm.MethodName) prog_2_method_3_code (8 : Nat) (Option.some Jvm.ClassFile.FieldType.int)) ∈ sf_TB := sf_in4 76 rfl rfl
set_option maxRecDepth 20000 in
theorem sw_798 : (Jvm.Cond.methodLink "SplitFares$Desk" (88 : Nat) ({ cls := "SplitFares$Ways", name := "fillWithTickets", desc := "(LSplitFares$Office;I)V" } : Jvm.MethodName)) ∈ sf_TB := sf_in4 78 rfl rfl
set_option maxRecDepth 20000 in
theorem sw_799 : (Jvm.Cond.instanceMethod ({ cls := "SplitFares$Ways", name := "fillWithTickets", desc := "(LSplitFares$Office;I)V" } : Jvm.MethodName)) ∈ sf_TB := sf_in4 79 rfl rfl
set_option maxRecDepth 20000 in
theorem sw_800 : (Jvm.Cond.selects "SplitFares$Ways" ({ cls := "SplitFares$Ways", name := "fillWithTickets", desc := "(LSplitFares$Office;I)V" } : Jvm.MethodName) ({ cls := "SplitFares$Ways", name := "fillWithTickets", desc := "(LSplitFares$Office;I)V" } : Jvm.MethodName)) ∈ sf_TB := sf_in4 80 rfl rfl
set_option maxRecDepth 20000 in
theorem sw_801 : (Jvm.Cond.code ({ cls := "SplitFares$Ways", name := "fillWithTickets", desc := "(LSplitFares$Office;I)V" } : Jvm.MethodName) prog_11_method_3_code (8 : Nat) (Option.none : Option Jvm.ClassFile.FieldType)) ∈ sf_TB := sf_in4 81 rfl rfl
set_option maxRecDepth 20000 in
theorem sw_802 : (Jvm.Cond.methodLink "SplitFares$Ways" (27 : Nat) ({ cls := "SplitFares$Office", name := "goes", desc := "(III)Z" } : Jvm.MethodName)) ∈ sf_TB := sf_in4 82 rfl rfl
set_option maxRecDepth 20000 in
theorem sw_803 : (Jvm.Cond.instanceMethod ({ cls := "SplitFares$Office", name := "goes", desc := "(III)Z" } : Jvm.MethodName)) ∈ sf_TB := sf_in4 83 rfl rfl
set_option maxRecDepth 20000 in
theorem sw_804 : (Jvm.Cond.selects "SplitFares$Office" ({ cls := "SplitFares$Office", name := "goes", desc := "(III)Z" } : Jvm.MethodName) ({ cls := "SplitFares$Office", name := "goes", desc := "(III)Z" } : Jvm.MethodName)) ∈ sf_TB := sf_in4 84 rfl rfl
set_option maxRecDepth 20000 in
theorem sw_805 : (Jvm.Cond.code ({ cls := "SplitFares$Office", name := "goes", desc := "(III)Z" } : Jvm.MethodName) prog_5_method_5_code (5 : Nat) (Option.some Jvm.ClassFile.FieldType.boolean)) ∈ sf_TB := sf_in4 85 rfl rfl
set_option maxRecDepth 20000 in
theorem sw_807 : (Jvm.Cond.methodLink "SplitFares$Ways" (45 : Nat) ({ cls := "SplitFares$Pocket", name := "heldOf", desc := "(III)I" } : Jvm.MethodName)) ∈ sf_TB := sf_in4 87 rfl rfl
set_option maxRecDepth 20000 in
theorem sw_808 : (Jvm.Cond.methodLink "SplitFares$Ways" (33 : Nat) ({ cls := "SplitFares$Office", name := "bars", desc := "(IIII)Z" } : Jvm.MethodName)) ∈ sf_TB := sf_in4 88 rfl rfl
set_option maxRecDepth 20000 in
theorem sw_809 : (Jvm.Cond.methodLink "SplitFares$Desk" (95 : Nat) ({ cls := "SplitFares$Ways", name := "least", desc := "(III)I" } : Jvm.MethodName)) ∈ sf_TB := sf_in4 89 rfl rfl
set_option maxRecDepth 20000 in
theorem sw_810 : (Jvm.Cond.instanceMethod ({ cls := "SplitFares$Ways", name := "least", desc := "(III)I" } : Jvm.MethodName)) ∈ sf_TB := sf_in4 90 rfl rfl
set_option maxRecDepth 20000 in
theorem sw_811 : (Jvm.Cond.selects "SplitFares$Ways" ({ cls := "SplitFares$Ways", name := "least", desc := "(III)I" } : Jvm.MethodName) ({ cls := "SplitFares$Ways", name := "least", desc := "(III)I" } : Jvm.MethodName)) ∈ sf_TB := sf_in4 91 rfl rfl
set_option maxRecDepth 20000 in
theorem sw_812 : (Jvm.Cond.code ({ cls := "SplitFares$Ways", name := "least", desc := "(III)I" } : Jvm.MethodName) prog_11_method_7_code (7 : Nat) (Option.some Jvm.ClassFile.FieldType.int)) ∈ sf_TB := sf_in4 92 rfl rfl
set_option maxRecDepth 20000 in
theorem sw_814 : (Jvm.Cond.methodLink "SplitFares$Ways" (65 : Nat) ({ cls := "java/util/Arrays", name := "fill", desc := "([II)V" } : Jvm.MethodName)) ∈ sf_TB := sf_in4 94 rfl rfl
set_option maxRecDepth 20000 in
theorem sw_815 : (Jvm.Cond.static ({ cls := "java/util/Arrays", name := "fill", desc := "([II)V" } : Jvm.MethodName)) ∈ sf_TB := sf_in4 95 rfl rfl
set_option maxRecDepth 20000 in
theorem sw_816 : (Jvm.Cond.code ({ cls := "java/util/Arrays", name := "fill", desc := "([II)V" } : Jvm.MethodName) prog_20_method_103_code (4 : Nat) (Option.none : Option Jvm.ClassFile.FieldType)) ∈ sf_TB := sf_in4 96 rfl rfl
set_option maxRecDepth 20000 in
theorem sw_817 : (Jvm.Cond.methodLink "SplitFares$Ways" (71 : Nat) ({ cls := "SplitFares$Ways", name := "leastByOneMore", desc := "(I)I" } : Jvm.MethodName)) ∈ sf_TB := sf_in4 97 rfl rfl
set_option maxRecDepth 20000 in
theorem sw_819 : (Jvm.Cond.instanceMethod ({ cls := "SplitFares$Ways", name := "leastByOneMore", desc := "(I)I" } : Jvm.MethodName)) ∈ sf_TB := sf_in4 99 rfl rfl
set_option maxRecDepth 20000 in
theorem sw_820 : (Jvm.Cond.code ({ cls := "SplitFares$Ways", name := "leastByOneMore", desc := "(I)I" } : Jvm.MethodName) prog_11_method_8_code (5 : Nat) (Option.some Jvm.ClassFile.FieldType.int)) ∈ sf_TB := sf_in4 100 rfl rfl
set_option maxRecDepth 20000 in
theorem sw_821 : (Jvm.Cond.methodLink "SplitFares$Ways" (81 : Nat) ({ cls := "SplitFares$Ways", name := "legOf", desc := "(II)I" } : Jvm.MethodName)) ∈ sf_TB := sf_in4 101 rfl rfl
set_option maxRecDepth 20000 in
theorem sw_823 : (Jvm.Cond.instanceMethod ({ cls := "SplitFares$Ways", name := "legOf", desc := "(II)I" } : Jvm.MethodName)) ∈ sf_TB := sf_in4 103 rfl rfl
set_option maxRecDepth 20000 in
theorem sw_824 : (Jvm.Cond.code ({ cls := "SplitFares$Ways", name := "legOf", desc := "(II)I" } : Jvm.MethodName) prog_11_method_6_code (4 : Nat) (Option.some Jvm.ClassFile.FieldType.int)) ∈ sf_TB := sf_in4 104 rfl rfl
set_option maxRecDepth 20000 in
theorem sw_825 : (Jvm.Cond.methodLink "SplitFares$Ways" (75 : Nat) ({ cls := "java/lang/System", name := "arraycopy", desc := "(Ljava/lang/Object;ILjava/lang/Object;II)V" } : Jvm.MethodName)) ∈ sf_TB := sf_in4 105 rfl rfl
set_option maxRecDepth 20000 in
theorem sw_826 : (Jvm.Cond.methodLink "SplitFares$Desk" (98 : Nat) ({ cls := "SplitFares$Ways", name := "nextStop", desc := "(II)I" } : Jvm.MethodName)) ∈ sf_TB := sf_in4 106 rfl rfl
set_option maxRecDepth 20000 in
theorem sw_827 : (Jvm.Cond.instanceMethod ({ cls := "SplitFares$Ways", name := "nextStop", desc := "(II)I" } : Jvm.MethodName)) ∈ sf_TB := sf_in4 107 rfl rfl
set_option maxRecDepth 20000 in
theorem sw_828 : (Jvm.Cond.selects "SplitFares$Ways" ({ cls := "SplitFares$Ways", name := "nextStop", desc := "(II)I" } : Jvm.MethodName) ({ cls := "SplitFares$Ways", name := "nextStop", desc := "(II)I" } : Jvm.MethodName)) ∈ sf_TB := sf_in4 108 rfl rfl
set_option maxRecDepth 20000 in
theorem sw_829 : (Jvm.Cond.code ({ cls := "SplitFares$Ways", name := "nextStop", desc := "(II)I" } : Jvm.MethodName) prog_11_method_9_code (7 : Nat) (Option.some Jvm.ClassFile.FieldType.int)) ∈ sf_TB := sf_in4 109 rfl rfl
set_option maxRecDepth 20000 in
theorem sw_830 : (Jvm.Cond.methodLink "SplitFares$Ways" (85 : Nat) ({ cls := "java/lang/Math", name := "abs", desc := "(I)I" } : Jvm.MethodName)) ∈ sf_TB := sf_in4 110 rfl rfl
set_option maxRecDepth 20000 in
theorem sw_831 : (Jvm.Cond.methodLink "SplitFares$Desk" (102 : Nat) ({ cls := "SplitFares$Ways", name := "sortOf", desc := "(II)I" } : Jvm.MethodName)) ∈ sf_TB := sf_in4 111 rfl rfl
set_option maxRecDepth 20000 in
theorem sw_832 : (Jvm.Cond.instanceMethod ({ cls := "SplitFares$Ways", name := "sortOf", desc := "(II)I" } : Jvm.MethodName)) ∈ sf_TB := sf_in4 112 rfl rfl
set_option maxRecDepth 20000 in
theorem sw_833 : (Jvm.Cond.selects "SplitFares$Ways" ({ cls := "SplitFares$Ways", name := "sortOf", desc := "(II)I" } : Jvm.MethodName) ({ cls := "SplitFares$Ways", name := "sortOf", desc := "(II)I" } : Jvm.MethodName)) ∈ sf_TB := sf_in4 113 rfl rfl
set_option maxRecDepth 20000 in
theorem sw_834 : (Jvm.Cond.code ({ cls := "SplitFares$Ways", name := "sortOf", desc := "(II)I" } : Jvm.MethodName) prog_11_method_11_code (3 : Nat) (Option.some Jvm.ClassFile.FieldType.int)) ∈ sf_TB := sf_in4 114 rfl rfl
set_option maxRecDepth 20000 in
theorem sw_835 : (Jvm.Cond.methodLink "SplitFares$Desk" (144 : Nat) ({ cls := "SplitFares$Desk", name := "savePence", desc := "(I)I" } : Jvm.MethodName)) ∈ sf_TB := sf_in4 115 rfl rfl
set_option maxRecDepth 20000 in
theorem sw_836 : (Jvm.Cond.instanceMethod ({ cls := "SplitFares$Desk", name := "savePence", desc := "(I)I" } : Jvm.MethodName)) ∈ sf_TB := sf_in4 116 rfl rfl
set_option maxRecDepth 20000 in
theorem sw_837 : (Jvm.Cond.selects "SplitFares$Desk" ({ cls := "SplitFares$Desk", name := "savePence", desc := "(I)I" } : Jvm.MethodName) ({ cls := "SplitFares$Desk", name := "savePence", desc := "(I)I" } : Jvm.MethodName)) ∈ sf_TB := sf_in4 117 rfl rfl
set_option maxRecDepth 20000 in
theorem sw_838 : (Jvm.Cond.code ({ cls := "SplitFares$Desk", name := "savePence", desc := "(I)I" } : Jvm.MethodName) prog_2_method_4_code (2 : Nat) (Option.some Jvm.ClassFile.FieldType.int)) ∈ sf_TB := sf_in4 118 rfl rfl
set_option maxRecDepth 20000 in
theorem sw_839 : (Jvm.Cond.constant "SplitFares$Desk" (105 : Nat) (99999 : Int32)) ∈ sf_TB := sf_in4 119 rfl rfl
set_option maxRecDepth 20000 in
theorem sw_840 : (Jvm.Cond.methodLink "SplitFares$Desk" (106 : Nat) ({ cls := "java/lang/Math", name := "min", desc := "(II)I" } : Jvm.MethodName)) ∈ sf_TB := sf_in4 120 rfl rfl
set_option maxRecDepth 20000 in
theorem sw_841 : (Jvm.Cond.methodLink "SplitFares$Desk" (148 : Nat) ({ cls := "SplitFares$Desk", name := "passDay", desc := "()I" } : Jvm.MethodName)) ∈ sf_TB := sf_in4 121 rfl rfl
set_option maxRecDepth 20000 in
theorem sw_842 : (Jvm.Cond.instanceMethod ({ cls := "SplitFares$Desk", name := "passDay", desc := "()I" } : Jvm.MethodName)) ∈ sf_TB := sf_in4 122 rfl rfl
set_option maxRecDepth 20000 in
theorem sw_843 : (Jvm.Cond.selects "SplitFares$Desk" ({ cls := "SplitFares$Desk", name := "passDay", desc := "()I" } : Jvm.MethodName) ({ cls := "SplitFares$Desk", name := "passDay", desc := "()I" } : Jvm.MethodName)) ∈ sf_TB := sf_in4 123 rfl rfl
set_option maxRecDepth 20000 in
theorem sw_844 : (Jvm.Cond.code ({ cls := "SplitFares$Desk", name := "passDay", desc := "()I" } : Jvm.MethodName) prog_2_method_5_code (1 : Nat) (Option.some Jvm.ClassFile.FieldType.int)) ∈ sf_TB := sf_in4 124 rfl rfl
set_option maxRecDepth 20000 in
theorem sw_845 : (Jvm.Cond.methodLink "SplitFares$Desk" (114 : Nat) ({ cls := "SplitFares$Pocket", name := "dropHalves", desc := "()I" } : Jvm.MethodName)) ∈ sf_TB := sf_in4 125 rfl rfl
set_option maxRecDepth 20000 in
theorem sw_846 : (Jvm.Cond.instanceMethod ({ cls := "SplitFares$Pocket", name := "dropHalves", desc := "()I" } : Jvm.MethodName)) ∈ sf_TB := sf_in4 126 rfl rfl
set_option maxRecDepth 20000 in
theorem sw_847 : (Jvm.Cond.selects "SplitFares$Pocket" ({ cls := "SplitFares$Pocket", name := "dropHalves", desc := "()I" } : Jvm.MethodName) ({ cls := "SplitFares$Pocket", name := "dropHalves", desc := "()I" } : Jvm.MethodName)) ∈ sf_TB := sf_in4 127 rfl rfl
set_option maxRecDepth 20000 in
theorem sw_848 : (Jvm.Cond.code ({ cls := "SplitFares$Pocket", name := "dropHalves", desc := "()I" } : Jvm.MethodName) prog_6_method_6_code (3 : Nat) (Option.some Jvm.ClassFile.FieldType.int)) ∈ sf_TB := sf_in4 128 rfl rfl
set_option maxRecDepth 20000 in
theorem sw_849 : (Jvm.Cond.methodLink "SplitFares" (190 : Nat) ({ cls := "SplitFares$Desk", name := "takeBack", desc := "()V" } : Jvm.MethodName)) ∈ sf_TB := sf_in4 129 rfl rfl
set_option maxRecDepth 20000 in
theorem sw_850 : (Jvm.Cond.instanceMethod ({ cls := "SplitFares$Desk", name := "takeBack", desc := "()V" } : Jvm.MethodName)) ∈ sf_TB := sf_in4 130 rfl rfl
set_option maxRecDepth 20000 in
theorem sw_851 : (Jvm.Cond.selects "SplitFares$Desk" ({ cls := "SplitFares$Desk", name := "takeBack", desc := "()V" } : Jvm.MethodName) ({ cls := "SplitFares$Desk", name := "takeBack", desc := "()V" } : Jvm.MethodName)) ∈ sf_TB := sf_in4 131 rfl rfl
set_option maxRecDepth 20000 in
theorem sw_852 : (Jvm.Cond.code ({ cls := "SplitFares$Desk", name := "takeBack", desc := "()V" } : Jvm.MethodName) prog_2_method_7_code (1 : Nat) (Option.none : Option Jvm.ClassFile.FieldType)) ∈ sf_TB := sf_in4 132 rfl rfl
set_option maxRecDepth 20000 in
theorem sw_853 : (Jvm.Cond.methodLink "SplitFaresLaw" (67 : Nat) ({ cls := "SplitFares", name := "fault", desc := "()I" } : Jvm.MethodName)) ∈ sf_TB := sf_in4 133 rfl rfl
set_option maxRecDepth 20000 in
theorem sw_854 : (Jvm.Cond.instanceMethod ({ cls := "SplitFares", name := "fault", desc := "()I" } : Jvm.MethodName)) ∈ sf_TB := sf_in4 134 rfl rfl
set_option maxRecDepth 20000 in
theorem sw_855 : (Jvm.Cond.selects "SplitFares" ({ cls := "SplitFares", name := "fault", desc := "()I" } : Jvm.MethodName) ({ cls := "SplitFares", name := "fault", desc := "()I" } : Jvm.MethodName)) ∈ sf_TB := sf_in4 135 rfl rfl
set_option maxRecDepth 20000 in
theorem sw_856 : (Jvm.Cond.code ({ cls := "SplitFares", name := "fault", desc := "()I" } : Jvm.MethodName) prog_1_method_14_code (1 : Nat) (Option.some Jvm.ClassFile.FieldType.int)) ∈ sf_TB := sf_in4 136 rfl rfl
set_option maxRecDepth 20000 in
theorem sw_857 : (Jvm.Cond.methodLink "SplitFaresLaw" (71 : Nat) ({ cls := "SplitFares", name := "stopped", desc := "()I" } : Jvm.MethodName)) ∈ sf_TB := sf_in4 137 rfl rfl
set_option maxRecDepth 20000 in
theorem sw_858 : (Jvm.Cond.instanceMethod ({ cls := "SplitFares", name := "stopped", desc := "()I" } : Jvm.MethodName)) ∈ sf_TB := sf_in4 138 rfl rfl
set_option maxRecDepth 20000 in
theorem sw_859 : (Jvm.Cond.selects "SplitFares" ({ cls := "SplitFares", name := "stopped", desc := "()I" } : Jvm.MethodName) ({ cls := "SplitFares", name := "stopped", desc := "()I" } : Jvm.MethodName)) ∈ sf_TB := sf_in4 139 rfl rfl
set_option maxRecDepth 20000 in
theorem sw_860 : (Jvm.Cond.code ({ cls := "SplitFares", name := "stopped", desc := "()I" } : Jvm.MethodName) prog_1_method_15_code (1 : Nat) (Option.some Jvm.ClassFile.FieldType.int)) ∈ sf_TB := sf_in4 140 rfl rfl
set_option maxRecDepth 20000 in
theorem sw_861 : (Jvm.Cond.methodLink "SplitFaresLaw" (75 : Nat) ({ cls := "SplitFares", name := "force", desc := "(I)I" } : Jvm.MethodName)) ∈ sf_TB := sf_in4 141 rfl rfl
set_option maxRecDepth 20000 in
theorem sw_862 : (Jvm.Cond.instanceMethod ({ cls := "SplitFares", name := "force", desc := "(I)I" } : Jvm.MethodName)) ∈ sf_TB := sf_in4 142 rfl rfl
set_option maxRecDepth 20000 in
theorem sw_863 : (Jvm.Cond.selects "SplitFares" ({ cls := "SplitFares", name := "force", desc := "(I)I" } : Jvm.MethodName) ({ cls := "SplitFares", name := "force", desc := "(I)I" } : Jvm.MethodName)) ∈ sf_TB := sf_in4 143 rfl rfl
set_option maxRecDepth 20000 in
theorem sw_864 : (Jvm.Cond.code ({ cls := "SplitFares", name := "force", desc := "(I)I" } : Jvm.MethodName) prog_1_method_16_code (4 : Nat) (Option.some Jvm.ClassFile.FieldType.int)) ∈ sf_TB := sf_in4 144 rfl rfl
set_option maxRecDepth 20000 in
theorem sw_865 : (Jvm.Cond.methodLink "SplitFares" (193 : Nat) ({ cls := "SplitFares$Office", name := "lawOf", desc := "(I)LSplitFares$Program;" } : Jvm.MethodName)) ∈ sf_TB := sf_in4 145 rfl rfl
set_option maxRecDepth 20000 in
theorem sw_866 : (Jvm.Cond.methodLink "SplitFaresLaw" (79 : Nat) ({ cls := "SplitFares", name := "buy", desc := "(III)I" } : Jvm.MethodName)) ∈ sf_TB := sf_in4 146 rfl rfl
set_option maxRecDepth 20000 in
theorem sw_867 : (Jvm.Cond.instanceMethod ({ cls := "SplitFares", name := "buy", desc := "(III)I" } : Jvm.MethodName)) ∈ sf_TB := sf_in4 147 rfl rfl
set_option maxRecDepth 20000 in
theorem sw_868 : (Jvm.Cond.selects "SplitFares" ({ cls := "SplitFares", name := "buy", desc := "(III)I" } : Jvm.MethodName) ({ cls := "SplitFares", name := "buy", desc := "(III)I" } : Jvm.MethodName)) ∈ sf_TB := sf_in4 148 rfl rfl
set_option maxRecDepth 20000 in
theorem sw_869 : (Jvm.Cond.code ({ cls := "SplitFares", name := "buy", desc := "(III)I" } : Jvm.MethodName) prog_1_method_17_code (4 : Nat) (Option.some Jvm.ClassFile.FieldType.int)) ∈ sf_TB := sf_in4 149 rfl rfl
set_option maxRecDepth 20000 in
theorem sw_870 : (Jvm.Cond.methodLink "SplitFares" (200 : Nat) ({ cls := "SplitFares$Desk", name := "buyTicket", desc := "(III)I" } : Jvm.MethodName)) ∈ sf_TB := sf_in4 150 rfl rfl
set_option maxRecDepth 20000 in
theorem sw_871 : (Jvm.Cond.methodLink "SplitFaresLaw" (83 : Nat) ({ cls := "SplitFares", name := "ride", desc := "(II)I" } : Jvm.MethodName)) ∈ sf_TB := sf_in4 151 rfl rfl
set_option maxRecDepth 20000 in
theorem sw_872 : (Jvm.Cond.instanceMethod ({ cls := "SplitFares", name := "ride", desc := "(II)I" } : Jvm.MethodName)) ∈ sf_TB := sf_in4 152 rfl rfl
set_option maxRecDepth 20000 in
theorem sw_873 : (Jvm.Cond.selects "SplitFares" ({ cls := "SplitFares", name := "ride", desc := "(II)I" } : Jvm.MethodName) ({ cls := "SplitFares", name := "ride", desc := "(II)I" } : Jvm.MethodName)) ∈ sf_TB := sf_in4 153 rfl rfl
set_option maxRecDepth 20000 in
theorem sw_874 : (Jvm.Cond.code ({ cls := "SplitFares", name := "ride", desc := "(II)I" } : Jvm.MethodName) prog_1_method_18_code (3 : Nat) (Option.some Jvm.ClassFile.FieldType.int)) ∈ sf_TB := sf_in4 154 rfl rfl
set_option maxRecDepth 20000 in
theorem sw_875 : (Jvm.Cond.methodLink "SplitFares" (203 : Nat) ({ cls := "SplitFares$Desk", name := "rideTrain", desc := "(II)I" } : Jvm.MethodName)) ∈ sf_TB := sf_in4 155 rfl rfl
set_option maxRecDepth 20000 in
theorem sw_876 : (Jvm.Cond.methodLink "SplitFaresLaw" (87 : Nat) ({ cls := "SplitFares", name := "save", desc := "(I)I" } : Jvm.MethodName)) ∈ sf_TB := sf_in4 156 rfl rfl
set_option maxRecDepth 20000 in
theorem sw_877 : (Jvm.Cond.instanceMethod ({ cls := "SplitFares", name := "save", desc := "(I)I" } : Jvm.MethodName)) ∈ sf_TB := sf_in4 157 rfl rfl
set_option maxRecDepth 20000 in
theorem sw_878 : (Jvm.Cond.selects "SplitFares" ({ cls := "SplitFares", name := "save", desc := "(I)I" } : Jvm.MethodName) ({ cls := "SplitFares", name := "save", desc := "(I)I" } : Jvm.MethodName)) ∈ sf_TB := sf_in4 158 rfl rfl
set_option maxRecDepth 20000 in
theorem sw_879 : (Jvm.Cond.code ({ cls := "SplitFares", name := "save", desc := "(I)I" } : Jvm.MethodName) prog_1_method_19_code (2 : Nat) (Option.some Jvm.ClassFile.FieldType.int)) ∈ sf_TB := sf_in4 159 rfl rfl
set_option maxRecDepth 20000 in
theorem sw_880 : (Jvm.Cond.methodLink "SplitFares" (207 : Nat) ({ cls := "SplitFares$Desk", name := "savePence", desc := "(I)I" } : Jvm.MethodName)) ∈ sf_TB := sf_in4 160 rfl rfl
set_option maxRecDepth 20000 in
theorem sw_881 : (Jvm.Cond.methodLink "SplitFaresLaw" (91 : Nat) ({ cls := "SplitFares", name := "pass", desc := "()I" } : Jvm.MethodName)) ∈ sf_TB := sf_in4 161 rfl rfl
set_option maxRecDepth 20000 in
theorem sw_882 : (Jvm.Cond.instanceMethod ({ cls := "SplitFares", name := "pass", desc := "()I" } : Jvm.MethodName)) ∈ sf_TB := sf_in4 162 rfl rfl
set_option maxRecDepth 20000 in
theorem sw_883 : (Jvm.Cond.selects "SplitFares" ({ cls := "SplitFares", name := "pass", desc := "()I" } : Jvm.MethodName) ({ cls := "SplitFares", name := "pass", desc := "()I" } : Jvm.MethodName)) ∈ sf_TB := sf_in4 163 rfl rfl
set_option maxRecDepth 20000 in
theorem sw_884 : (Jvm.Cond.code ({ cls := "SplitFares", name := "pass", desc := "()I" } : Jvm.MethodName) prog_1_method_20_code (1 : Nat) (Option.some Jvm.ClassFile.FieldType.int)) ∈ sf_TB := sf_in4 164 rfl rfl
set_option maxRecDepth 20000 in
theorem sw_885 : (Jvm.Cond.methodLink "SplitFares" (210 : Nat) ({ cls := "SplitFares$Desk", name := "passDay", desc := "()I" } : Jvm.MethodName)) ∈ sf_TB := sf_in4 165 rfl rfl
set_option maxRecDepth 20000 in
theorem sw_886 : (Jvm.Cond.methodLink "SplitFaresLaw" (95 : Nat) ({ cls := "SplitFares", name := "undo", desc := "()I" } : Jvm.MethodName)) ∈ sf_TB := sf_in4 166 rfl rfl
set_option maxRecDepth 20000 in
theorem sw_887 : (Jvm.Cond.instanceMethod ({ cls := "SplitFares", name := "undo", desc := "()I" } : Jvm.MethodName)) ∈ sf_TB := sf_in4 167 rfl rfl
set_option maxRecDepth 20000 in
theorem sw_888 : (Jvm.Cond.selects "SplitFares" ({ cls := "SplitFares", name := "undo", desc := "()I" } : Jvm.MethodName) ({ cls := "SplitFares", name := "undo", desc := "()I" } : Jvm.MethodName)) ∈ sf_TB := sf_in4 168 rfl rfl
set_option maxRecDepth 20000 in
theorem sw_889 : (Jvm.Cond.code ({ cls := "SplitFares", name := "undo", desc := "()I" } : Jvm.MethodName) prog_1_method_21_code (2 : Nat) (Option.some Jvm.ClassFile.FieldType.int)) ∈ sf_TB := sf_in4 169 rfl rfl
set_option maxRecDepth 20000 in
theorem sw_890 : (Jvm.Cond.methodLink "SplitFares" (214 : Nat) ({ cls := "SplitFares$Log", name := "pop", desc := "(LSplitFares$Pocket;)I" } : Jvm.MethodName)) ∈ sf_TB := sf_in4 170 rfl rfl
set_option maxRecDepth 20000 in
theorem sw_891 : (Jvm.Cond.instanceMethod ({ cls := "SplitFares$Log", name := "pop", desc := "(LSplitFares$Pocket;)I" } : Jvm.MethodName)) ∈ sf_TB := sf_in4 171 rfl rfl
set_option maxRecDepth 20000 in
theorem sw_892 : (Jvm.Cond.selects "SplitFares$Log" ({ cls := "SplitFares$Log", name := "pop", desc := "(LSplitFares$Pocket;)I" } : Jvm.MethodName) ({ cls := "SplitFares$Log", name := "pop", desc := "(LSplitFares$Pocket;)I" } : Jvm.MethodName)) ∈ sf_TB := sf_in4 172 rfl rfl
set_option maxRecDepth 20000 in
theorem sw_893 : (Jvm.Cond.code ({ cls := "SplitFares$Log", name := "pop", desc := "(LSplitFares$Pocket;)I" } : Jvm.MethodName) prog_3_method_4_code (4 : Nat) (Option.some Jvm.ClassFile.FieldType.int)) ∈ sf_TB := sf_in4 173 rfl rfl
set_option maxRecDepth 20000 in
theorem sw_894 : (Jvm.Cond.methodLink "SplitFaresLaw" (99 : Nat) ({ cls := "SplitFares", name := "cheapest", desc := "(IIII)I" } : Jvm.MethodName)) ∈ sf_TB := sf_in4 174 rfl rfl
set_option maxRecDepth 20000 in
theorem sw_895 : (Jvm.Cond.instanceMethod ({ cls := "SplitFares", name := "cheapest", desc := "(IIII)I" } : Jvm.MethodName)) ∈ sf_TB := sf_in4 175 rfl rfl
set_option maxRecDepth 20000 in
theorem sw_896 : (Jvm.Cond.selects "SplitFares" ({ cls := "SplitFares", name := "cheapest", desc := "(IIII)I" } : Jvm.MethodName) ({ cls := "SplitFares", name := "cheapest", desc := "(IIII)I" } : Jvm.MethodName)) ∈ sf_TB := sf_in4 176 rfl rfl
set_option maxRecDepth 20000 in
theorem sw_897 : (Jvm.Cond.code ({ cls := "SplitFares", name := "cheapest", desc := "(IIII)I" } : Jvm.MethodName) prog_1_method_22_code (6 : Nat) (Option.some Jvm.ClassFile.FieldType.int)) ∈ sf_TB := sf_in4 177 rfl rfl
set_option maxRecDepth 20000 in
theorem sw_898 : (Jvm.Cond.methodLink "SplitFares" (218 : Nat) ({ cls := "SplitFares", name := "leastOn", desc := "(IIII)I" } : Jvm.MethodName)) ∈ sf_TB := sf_in4 178 rfl rfl
set_option maxRecDepth 20000 in
theorem sw_900 : (Jvm.Cond.instanceMethod ({ cls := "SplitFares", name := "leastOn", desc := "(IIII)I" } : Jvm.MethodName)) ∈ sf_TB := sf_in4 180 rfl rfl
set_option maxRecDepth 20000 in
theorem sw_901 : (Jvm.Cond.code ({ cls := "SplitFares", name := "leastOn", desc := "(IIII)I" } : Jvm.MethodName) prog_1_method_51_code (5 : Nat) (Option.some Jvm.ClassFile.FieldType.int)) ∈ sf_TB := sf_in4 181 rfl rfl
set_option maxRecDepth 20000 in
theorem sw_902 : (Jvm.Cond.methodLink "SplitFares" (231 : Nat) ({ cls := "SplitFares$Ways", name := "fillWithSingles", desc := "(LSplitFares$Office;I)V" } : Jvm.MethodName)) ∈ sf_TB := sf_in4 182 rfl rfl
set_option maxRecDepth 20000 in
theorem sw_903 : (Jvm.Cond.instanceMethod ({ cls := "SplitFares$Ways", name := "fillWithSingles", desc := "(LSplitFares$Office;I)V" } : Jvm.MethodName)) ∈ sf_TB := sf_in4 183 rfl rfl
set_option maxRecDepth 20000 in
theorem sw_904 : (Jvm.Cond.selects "SplitFares$Ways" ({ cls := "SplitFares$Ways", name := "fillWithSingles", desc := "(LSplitFares$Office;I)V" } : Jvm.MethodName) ({ cls := "SplitFares$Ways", name := "fillWithSingles", desc := "(LSplitFares$Office;I)V" } : Jvm.MethodName)) ∈ sf_TB := sf_in4 184 rfl rfl
set_option maxRecDepth 20000 in
theorem sw_905 : (Jvm.Cond.code ({ cls := "SplitFares$Ways", name := "fillWithSingles", desc := "(LSplitFares$Office;I)V" } : Jvm.MethodName) prog_11_method_2_code (7 : Nat) (Option.none : Option Jvm.ClassFile.FieldType)) ∈ sf_TB := sf_in4 185 rfl rfl
set_option maxRecDepth 20000 in
theorem sw_906 : (Jvm.Cond.methodLink "SplitFares$Ways" (37 : Nat) ({ cls := "SplitFares$Office", name := "costOf", desc := "(III)I" } : Jvm.MethodName)) ∈ sf_TB := sf_in4 186 rfl rfl
set_option maxRecDepth 20000 in
theorem sw_907 : (Jvm.Cond.methodLink "SplitFares" (235 : Nat) ({ cls := "SplitFares$Ways", name := "least", desc := "(III)I" } : Jvm.MethodName)) ∈ sf_TB := sf_in4 187 rfl rfl
set_option maxRecDepth 20000 in
theorem sw_908 : (Jvm.Cond.methodLink "SplitFares" (226 : Nat) ({ cls := "SplitFares$Ways", name := "endOf", desc := "(III)I" } : Jvm.MethodName)) ∈ sf_TB := sf_in4 188 rfl rfl
set_option maxRecDepth 20000 in
theorem sw_909 : (Jvm.Cond.instanceMethod ({ cls := "SplitFares$Ways", name := "endOf", desc := "(III)I" } : Jvm.MethodName)) ∈ sf_TB := sf_in4 189 rfl rfl
set_option maxRecDepth 20000 in
theorem sw_910 : (Jvm.Cond.selects "SplitFares$Ways" ({ cls := "SplitFares$Ways", name := "endOf", desc := "(III)I" } : Jvm.MethodName) ({ cls := "SplitFares$Ways", name := "endOf", desc := "(III)I" } : Jvm.MethodName)) ∈ sf_TB := sf_in4 190 rfl rfl
set_option maxRecDepth 20000 in
theorem sw_911 : (Jvm.Cond.code ({ cls := "SplitFares$Ways", name := "endOf", desc := "(III)I" } : Jvm.MethodName) prog_11_method_10_code (6 : Nat) (Option.some Jvm.ClassFile.FieldType.int)) ∈ sf_TB := sf_in4 191 rfl rfl
set_option maxRecDepth 20000 in
theorem sw_912 : (Jvm.Cond.methodLink "SplitFares$Ways" (90 : Nat) ({ cls := "SplitFares$Ways", name := "nextStop", desc := "(II)I" } : Jvm.MethodName)) ∈ sf_TB := sf_in4 192 rfl rfl
set_option maxRecDepth 20000 in
theorem sw_913 : (Jvm.Cond.methodLink "SplitFaresLaw" (103 : Nat) ({ cls := "SplitFares", name := "byAtMost", desc := "(IIII)I" } : Jvm.MethodName)) ∈ sf_TB := sf_in4 193 rfl rfl
set_option maxRecDepth 20000 in
theorem sw_914 : (Jvm.Cond.instanceMethod ({ cls := "SplitFares", name := "byAtMost", desc := "(IIII)I" } : Jvm.MethodName)) ∈ sf_TB := sf_in4 194 rfl rfl
set_option maxRecDepth 20000 in
theorem sw_915 : (Jvm.Cond.selects "SplitFares" ({ cls := "SplitFares", name := "byAtMost", desc := "(IIII)I" } : Jvm.MethodName) ({ cls := "SplitFares", name := "byAtMost", desc := "(IIII)I" } : Jvm.MethodName)) ∈ sf_TB := sf_in4 195 rfl rfl
set_option maxRecDepth 20000 in
theorem sw_916 : (Jvm.Cond.code ({ cls := "SplitFares", name := "byAtMost", desc := "(IIII)I" } : Jvm.MethodName) prog_1_method_23_code (5 : Nat) (Option.some Jvm.ClassFile.FieldType.int)) ∈ sf_TB := sf_in4 196 rfl rfl
set_option maxRecDepth 20000 in
theorem sw_917 : (Jvm.Cond.methodLink "SplitFaresLaw" (107 : Nat) ({ cls := "SplitFares", name := "fewest", desc := "(III)I" } : Jvm.MethodName)) ∈ sf_TB := sf_in4 197 rfl rfl
set_option maxRecDepth 20000 in
theorem sw_918 : (Jvm.Cond.instanceMethod ({ cls := "SplitFares", name := "fewest", desc := "(III)I" } : Jvm.MethodName)) ∈ sf_TB := sf_in4 198 rfl rfl
set_option maxRecDepth 20000 in
theorem sw_919 : (Jvm.Cond.selects "SplitFares" ({ cls := "SplitFares", name := "fewest", desc := "(III)I" } : Jvm.MethodName) ({ cls := "SplitFares", name := "fewest", desc := "(III)I" } : Jvm.MethodName)) ∈ sf_TB := sf_in4 199 rfl rfl
set_option maxRecDepth 20000 in
theorem sw_920 : (Jvm.Cond.code ({ cls := "SplitFares", name := "fewest", desc := "(III)I" } : Jvm.MethodName) prog_1_method_24_code (5 : Nat) (Option.some Jvm.ClassFile.FieldType.int)) ∈ sf_TB := sf_in4 200 rfl rfl
set_option maxRecDepth 20000 in
theorem sw_921 : (Jvm.Cond.methodLink "SplitFaresLaw" (111 : Nat) ({ cls := "SplitFares", name := "ways", desc := "(III)I" } : Jvm.MethodName)) ∈ sf_TB := sf_in4 201 rfl rfl
set_option maxRecDepth 20000 in
theorem sw_922 : (Jvm.Cond.instanceMethod ({ cls := "SplitFares", name := "ways", desc := "(III)I" } : Jvm.MethodName)) ∈ sf_TB := sf_in4 202 rfl rfl
set_option maxRecDepth 20000 in
theorem sw_923 : (Jvm.Cond.selects "SplitFares" ({ cls := "SplitFares", name := "ways", desc := "(III)I" } : Jvm.MethodName) ({ cls := "SplitFares", name := "ways", desc := "(III)I" } : Jvm.MethodName)) ∈ sf_TB := sf_in4 203 rfl rfl
set_option maxRecDepth 20000 in
theorem sw_924 : (Jvm.Cond.code ({ cls := "SplitFares", name := "ways", desc := "(III)I" } : Jvm.MethodName) prog_1_method_25_code (4 : Nat) (Option.some Jvm.ClassFile.FieldType.int)) ∈ sf_TB := sf_in4 204 rfl rfl
set_option maxRecDepth 20000 in
theorem sw_925 : (Jvm.Cond.methodLink "SplitFares" (238 : Nat) ({ cls := "SplitFares$Ways", name := "howMany", desc := "(II)I" } : Jvm.MethodName)) ∈ sf_TB := sf_in4 205 rfl rfl
set_option maxRecDepth 20000 in
theorem sw_926 : (Jvm.Cond.instanceMethod ({ cls := "SplitFares$Ways", name := "howMany", desc := "(II)I" } : Jvm.MethodName)) ∈ sf_TB := sf_in4 206 rfl rfl
set_option maxRecDepth 20000 in
theorem sw_927 : (Jvm.Cond.selects "SplitFares$Ways" ({ cls := "SplitFares$Ways", name := "howMany", desc := "(II)I" } : Jvm.MethodName) ({ cls := "SplitFares$Ways", name := "howMany", desc := "(II)I" } : Jvm.MethodName)) ∈ sf_TB := sf_in4 207 rfl rfl
set_option maxRecDepth 20000 in
theorem sw_928 : (Jvm.Cond.code ({ cls := "SplitFares$Ways", name := "howMany", desc := "(II)I" } : Jvm.MethodName) prog_11_method_12_code (9 : Nat) (Option.some Jvm.ClassFile.FieldType.int)) ∈ sf_TB := sf_in4 208 rfl rfl
set_option maxRecDepth 20000 in
theorem sw_929 : (Jvm.Cond.methodLink "SplitFaresLaw" (115 : Nat) ({ cls := "SplitFares", name := "thereAndBack", desc := "(IIII)I" } : Jvm.MethodName)) ∈ sf_TB := sf_in4 209 rfl rfl
set_option maxRecDepth 20000 in
theorem sw_930 : (Jvm.Cond.instanceMethod ({ cls := "SplitFares", name := "thereAndBack", desc := "(IIII)I" } : Jvm.MethodName)) ∈ sf_TB := sf_in4 210 rfl rfl
set_option maxRecDepth 20000 in
theorem sw_931 : (Jvm.Cond.selects "SplitFares" ({ cls := "SplitFares", name := "thereAndBack", desc := "(IIII)I" } : Jvm.MethodName) ({ cls := "SplitFares", name := "thereAndBack", desc := "(IIII)I" } : Jvm.MethodName)) ∈ sf_TB := sf_in4 211 rfl rfl
set_option maxRecDepth 20000 in
theorem sw_932 : (Jvm.Cond.code ({ cls := "SplitFares", name := "thereAndBack", desc := "(IIII)I" } : Jvm.MethodName) prog_1_method_26_code (5 : Nat) (Option.some Jvm.ClassFile.FieldType.int)) ∈ sf_TB := sf_in4 212 rfl rfl
set_option maxRecDepth 20000 in
theorem sw_933 : (Jvm.Cond.methodLink "SplitFares" (241 : Nat) ({ cls := "SplitFares$Ways", name := "fillThereAndBack", desc := "(LSplitFares$Office;II)V" } : Jvm.MethodName)) ∈ sf_TB := sf_in4 213 rfl rfl
set_option maxRecDepth 20000 in
theorem sw_934 : (Jvm.Cond.instanceMethod ({ cls := "SplitFares$Ways", name := "fillThereAndBack", desc := "(LSplitFares$Office;II)V" } : Jvm.MethodName)) ∈ sf_TB := sf_in4 214 rfl rfl
set_option maxRecDepth 20000 in
theorem sw_935 : (Jvm.Cond.selects "SplitFares$Ways" ({ cls := "SplitFares$Ways", name := "fillThereAndBack", desc := "(LSplitFares$Office;II)V" } : Jvm.MethodName) ({ cls := "SplitFares$Ways", name := "fillThereAndBack", desc := "(LSplitFares$Office;II)V" } : Jvm.MethodName)) ∈ sf_TB := sf_in4 215 rfl rfl
set_option maxRecDepth 20000 in
theorem sw_936 : (Jvm.Cond.code ({ cls := "SplitFares$Ways", name := "fillThereAndBack", desc := "(LSplitFares$Office;II)V" } : Jvm.MethodName) prog_11_method_4_code (7 : Nat) (Option.none : Option Jvm.ClassFile.FieldType)) ∈ sf_TB := sf_in4 216 rfl rfl
set_option maxRecDepth 20000 in
theorem sw_937 : (Jvm.Cond.methodLink "SplitFares$Ways" (50 : Nat) ({ cls := "SplitFares$Ways", name := "fillWithSingles", desc := "(LSplitFares$Office;I)V" } : Jvm.MethodName)) ∈ sf_TB := sf_in4 217 rfl rfl
set_option maxRecDepth 20000 in
theorem sw_938 : (Jvm.Cond.methodLink "SplitFares$Ways" (54 : Nat) ({ cls := "SplitFares$Ways", name := "least", desc := "(III)I" } : Jvm.MethodName)) ∈ sf_TB := sf_in4 218 rfl rfl
set_option maxRecDepth 20000 in
theorem sw_939 : (Jvm.Cond.methodLink "SplitFares$Ways" (57 : Nat) ({ cls := "SplitFares$Ways", name := "returnOn", desc := "(LSplitFares$Office;IIII)I" } : Jvm.MethodName)) ∈ sf_TB := sf_in4 219 rfl rfl
set_option maxRecDepth 20000 in
theorem sw_941 : (Jvm.Cond.instanceMethod ({ cls := "SplitFares$Ways", name := "returnOn", desc := "(LSplitFares$Office;IIII)I" } : Jvm.MethodName)) ∈ sf_TB := sf_in4 221 rfl rfl
set_option maxRecDepth 20000 in
theorem sw_942 : (Jvm.Cond.code ({ cls := "SplitFares$Ways", name := "returnOn", desc := "(LSplitFares$Office;IIII)I" } : Jvm.MethodName) prog_11_method_5_code (7 : Nat) (Option.some Jvm.ClassFile.FieldType.int)) ∈ sf_TB := sf_in4 222 rfl rfl
set_option maxRecDepth 20000 in
theorem sw_943 : (Jvm.Cond.methodLink "SplitFaresLaw" (119 : Nat) ({ cls := "SplitFares", name := "saved", desc := "(III)I" } : Jvm.MethodName)) ∈ sf_TB := sf_in4 223 rfl rfl
set_option maxRecDepth 20000 in
theorem sw_944 : (Jvm.Cond.instanceMethod ({ cls := "SplitFares", name := "saved", desc := "(III)I" } : Jvm.MethodName)) ∈ sf_TB := sf_in4 224 rfl rfl
set_option maxRecDepth 20000 in
theorem sw_945 : (Jvm.Cond.selects "SplitFares" ({ cls := "SplitFares", name := "saved", desc := "(III)I" } : Jvm.MethodName) ({ cls := "SplitFares", name := "saved", desc := "(III)I" } : Jvm.MethodName)) ∈ sf_TB := sf_in4 225 rfl rfl
set_option maxRecDepth 20000 in
theorem sw_946 : (Jvm.Cond.code ({ cls := "SplitFares", name := "saved", desc := "(III)I" } : Jvm.MethodName) prog_1_method_27_code (4 : Nat) (Option.some Jvm.ClassFile.FieldType.int)) ∈ sf_TB := sf_in4 226 rfl rfl
set_option maxRecDepth 20000 in
theorem sw_947 : (Jvm.Cond.methodLink "SplitFares" (245 : Nat) ({ cls := "SplitFares$Ways", name := "savedBetween", desc := "(II)I" } : Jvm.MethodName)) ∈ sf_TB := sf_in4 227 rfl rfl
set_option maxRecDepth 20000 in
theorem sw_948 : (Jvm.Cond.instanceMethod ({ cls := "SplitFares$Ways", name := "savedBetween", desc := "(II)I" } : Jvm.MethodName)) ∈ sf_TB := sf_in4 228 rfl rfl
set_option maxRecDepth 20000 in
theorem sw_949 : (Jvm.Cond.selects "SplitFares$Ways" ({ cls := "SplitFares$Ways", name := "savedBetween", desc := "(II)I" } : Jvm.MethodName) ({ cls := "SplitFares$Ways", name := "savedBetween", desc := "(II)I" } : Jvm.MethodName)) ∈ sf_TB := sf_in4 229 rfl rfl
set_option maxRecDepth 20000 in
theorem sw_950 : (Jvm.Cond.code ({ cls := "SplitFares$Ways", name := "savedBetween", desc := "(II)I" } : Jvm.MethodName) prog_11_method_13_code (5 : Nat) (Option.some Jvm.ClassFile.FieldType.int)) ∈ sf_TB := sf_in4 230 rfl rfl
set_option maxRecDepth 20000 in
theorem sw_951 : (Jvm.Cond.methodLink "SplitFaresLaw" (123 : Nat) ({ cls := "SplitFares", name := "bestTrain", desc := "(II)I" } : Jvm.MethodName)) ∈ sf_TB := sf_in4 231 rfl rfl
set_option maxRecDepth 20000 in
theorem sw_952 : (Jvm.Cond.instanceMethod ({ cls := "SplitFares", name := "bestTrain", desc := "(II)I" } : Jvm.MethodName)) ∈ sf_TB := sf_in4 232 rfl rfl
set_option maxRecDepth 20000 in
theorem sw_953 : (Jvm.Cond.selects "SplitFares" ({ cls := "SplitFares", name := "bestTrain", desc := "(II)I" } : Jvm.MethodName) ({ cls := "SplitFares", name := "bestTrain", desc := "(II)I" } : Jvm.MethodName)) ∈ sf_TB := sf_in4 233 rfl rfl
set_option maxRecDepth 20000 in
theorem sw_954 : (Jvm.Cond.code ({ cls := "SplitFares", name := "bestTrain", desc := "(II)I" } : Jvm.MethodName) prog_1_method_28_code (7 : Nat) (Option.some Jvm.ClassFile.FieldType.int)) ∈ sf_TB := sf_in4 234 rfl rfl
set_option maxRecDepth 20000 in
theorem sw_955 : (Jvm.Cond.methodLink "SplitFaresLaw" (127 : Nat) ({ cls := "SplitFares", name := "mostSaved", desc := "(II)I" } : Jvm.MethodName)) ∈ sf_TB := sf_in4 235 rfl rfl
set_option maxRecDepth 20000 in
theorem sw_956 : (Jvm.Cond.instanceMethod ({ cls := "SplitFares", name := "mostSaved", desc := "(II)I" } : Jvm.MethodName)) ∈ sf_TB := sf_in4 236 rfl rfl
set_option maxRecDepth 20000 in
theorem sw_957 : (Jvm.Cond.selects "SplitFares" ({ cls := "SplitFares", name := "mostSaved", desc := "(II)I" } : Jvm.MethodName) ({ cls := "SplitFares", name := "mostSaved", desc := "(II)I" } : Jvm.MethodName)) ∈ sf_TB := sf_in4 237 rfl rfl
set_option maxRecDepth 20000 in
theorem sw_958 : (Jvm.Cond.code ({ cls := "SplitFares", name := "mostSaved", desc := "(II)I" } : Jvm.MethodName) prog_1_method_29_code (8 : Nat) (Option.some Jvm.ClassFile.FieldType.int)) ∈ sf_TB := sf_in4 238 rfl rfl
set_option maxRecDepth 20000 in
theorem sw_959 : (Jvm.Cond.methodLink "SplitFaresLaw" (131 : Nat) ({ cls := "SplitFares", name := "purseEnd", desc := "()I" } : Jvm.MethodName)) ∈ sf_TB := sf_in4 239 rfl rfl
set_option maxRecDepth 20000 in
theorem sw_960 : (Jvm.Cond.instanceMethod ({ cls := "SplitFares", name := "purseEnd", desc := "()I" } : Jvm.MethodName)) ∈ sf_TB := sf_in5 0 rfl rfl
set_option maxRecDepth 20000 in
theorem sw_961 : (Jvm.Cond.selects "SplitFares" ({ cls := "SplitFares", name := "purseEnd", desc := "()I" } : Jvm.MethodName) ({ cls := "SplitFares", name := "purseEnd", desc := "()I" } : Jvm.MethodName)) ∈ sf_TB := sf_in5 1 rfl rfl
set_option maxRecDepth 20000 in
theorem sw_962 : (Jvm.Cond.code ({ cls := "SplitFares", name := "purseEnd", desc := "()I" } : Jvm.MethodName) prog_1_method_30_code (4 : Nat) (Option.some Jvm.ClassFile.FieldType.int)) ∈ sf_TB := sf_in5 2 rfl rfl
set_option maxRecDepth 20000 in
theorem sw_963 : (Jvm.Cond.methodLink "SplitFares" (248 : Nat) ({ cls := "SplitFares", name := "fillAnswers", desc := "()V" } : Jvm.MethodName)) ∈ sf_TB := sf_in5 3 rfl rfl
set_option maxRecDepth 20000 in
theorem sw_965 : (Jvm.Cond.instanceMethod ({ cls := "SplitFares", name := "fillAnswers", desc := "()V" } : Jvm.MethodName)) ∈ sf_TB := sf_in5 5 rfl rfl
set_option maxRecDepth 20000 in
theorem sw_966 : (Jvm.Cond.code ({ cls := "SplitFares", name := "fillAnswers", desc := "()V" } : Jvm.MethodName) prog_1_method_52_code (4 : Nat) (Option.none : Option Jvm.ClassFile.FieldType)) ∈ sf_TB := sf_in5 6 rfl rfl
set_option maxRecDepth 20000 in
theorem sw_967 : (Jvm.Cond.methodLink "SplitFaresLaw" (135 : Nat) ({ cls := "SplitFares", name := "used", desc := "(III)I" } : Jvm.MethodName)) ∈ sf_TB := sf_in5 7 rfl rfl
set_option maxRecDepth 20000 in
theorem sw_968 : (Jvm.Cond.instanceMethod ({ cls := "SplitFares", name := "used", desc := "(III)I" } : Jvm.MethodName)) ∈ sf_TB := sf_in5 8 rfl rfl
set_option maxRecDepth 20000 in
theorem sw_969 : (Jvm.Cond.selects "SplitFares" ({ cls := "SplitFares", name := "used", desc := "(III)I" } : Jvm.MethodName) ({ cls := "SplitFares", name := "used", desc := "(III)I" } : Jvm.MethodName)) ∈ sf_TB := sf_in5 9 rfl rfl
set_option maxRecDepth 20000 in
theorem sw_970 : (Jvm.Cond.code ({ cls := "SplitFares", name := "used", desc := "(III)I" } : Jvm.MethodName) prog_1_method_31_code (6 : Nat) (Option.some Jvm.ClassFile.FieldType.int)) ∈ sf_TB := sf_in5 10 rfl rfl
set_option maxRecDepth 20000 in
theorem sw_971 : (Jvm.Cond.methodLink "SplitFares" (256 : Nat) ({ cls := "SplitFares$Ways", name := "fillWithTickets", desc := "(LSplitFares$Office;I)V" } : Jvm.MethodName)) ∈ sf_TB := sf_in5 11 rfl rfl
set_option maxRecDepth 20000 in
theorem sw_972 : (Jvm.Cond.methodLink "SplitFaresLaw" (139 : Nat) ({ cls := "SplitFares", name := "told", desc := "(II)I" } : Jvm.MethodName)) ∈ sf_TB := sf_in5 12 rfl rfl
set_option maxRecDepth 20000 in
theorem sw_973 : (Jvm.Cond.instanceMethod ({ cls := "SplitFares", name := "told", desc := "(II)I" } : Jvm.MethodName)) ∈ sf_TB := sf_in5 13 rfl rfl
set_option maxRecDepth 20000 in
theorem sw_974 : (Jvm.Cond.selects "SplitFares" ({ cls := "SplitFares", name := "told", desc := "(II)I" } : Jvm.MethodName) ({ cls := "SplitFares", name := "told", desc := "(II)I" } : Jvm.MethodName)) ∈ sf_TB := sf_in5 14 rfl rfl
set_option maxRecDepth 20000 in
theorem sw_975 : (Jvm.Cond.code ({ cls := "SplitFares", name := "told", desc := "(II)I" } : Jvm.MethodName) prog_1_method_32_code (3 : Nat) (Option.some Jvm.ClassFile.FieldType.int)) ∈ sf_TB := sf_in5 15 rfl rfl
set_option maxRecDepth 20000 in
theorem sw_976 : (Jvm.Cond.methodLink "SplitFares" (259 : Nat) ({ cls := "SplitFares$Office", name := "addTold", desc := "(II)I" } : Jvm.MethodName)) ∈ sf_TB := sf_in5 16 rfl rfl
set_option maxRecDepth 20000 in
theorem sw_977 : (Jvm.Cond.instanceMethod ({ cls := "SplitFares$Office", name := "addTold", desc := "(II)I" } : Jvm.MethodName)) ∈ sf_TB := sf_in5 17 rfl rfl
set_option maxRecDepth 20000 in
theorem sw_978 : (Jvm.Cond.selects "SplitFares$Office" ({ cls := "SplitFares$Office", name := "addTold", desc := "(II)I" } : Jvm.MethodName) ({ cls := "SplitFares$Office", name := "addTold", desc := "(II)I" } : Jvm.MethodName)) ∈ sf_TB := sf_in5 18 rfl rfl
set_option maxRecDepth 20000 in
theorem sw_979 : (Jvm.Cond.code ({ cls := "SplitFares$Office", name := "addTold", desc := "(II)I" } : Jvm.MethodName) prog_5_method_6_code (3 : Nat) (Option.some Jvm.ClassFile.FieldType.int)) ∈ sf_TB := sf_in5 19 rfl rfl
set_option maxRecDepth 20000 in
theorem sw_981 : (Jvm.Cond.constant "SplitFares$Office" (93 : Nat) (99999 : Int32)) ∈ sf_TB := sf_in5 21 rfl rfl
set_option maxRecDepth 20000 in
theorem sw_982 : (Jvm.Cond.methodLink "SplitFaresLaw" (143 : Nat) ({ cls := "SplitFares", name := "forget", desc := "()I" } : Jvm.MethodName)) ∈ sf_TB := sf_in5 22 rfl rfl
set_option maxRecDepth 20000 in
theorem sw_983 : (Jvm.Cond.instanceMethod ({ cls := "SplitFares", name := "forget", desc := "()I" } : Jvm.MethodName)) ∈ sf_TB := sf_in5 23 rfl rfl
set_option maxRecDepth 20000 in
theorem sw_984 : (Jvm.Cond.selects "SplitFares" ({ cls := "SplitFares", name := "forget", desc := "()I" } : Jvm.MethodName) ({ cls := "SplitFares", name := "forget", desc := "()I" } : Jvm.MethodName)) ∈ sf_TB := sf_in5 24 rfl rfl
set_option maxRecDepth 20000 in
theorem sw_985 : (Jvm.Cond.code ({ cls := "SplitFares", name := "forget", desc := "()I" } : Jvm.MethodName) prog_1_method_33_code (2 : Nat) (Option.some Jvm.ClassFile.FieldType.int)) ∈ sf_TB := sf_in5 25 rfl rfl
set_option maxRecDepth 20000 in
theorem sw_986 : (Jvm.Cond.methodLink "SplitFaresLaw" (147 : Nat) ({ cls := "SplitFares", name := "canBe", desc := "()I" } : Jvm.MethodName)) ∈ sf_TB := sf_in5 26 rfl rfl
set_option maxRecDepth 20000 in
theorem sw_987 : (Jvm.Cond.instanceMethod ({ cls := "SplitFares", name := "canBe", desc := "()I" } : Jvm.MethodName)) ∈ sf_TB := sf_in5 27 rfl rfl
set_option maxRecDepth 20000 in
theorem sw_988 : (Jvm.Cond.selects "SplitFares" ({ cls := "SplitFares", name := "canBe", desc := "()I" } : Jvm.MethodName) ({ cls := "SplitFares", name := "canBe", desc := "()I" } : Jvm.MethodName)) ∈ sf_TB := sf_in5 28 rfl rfl
set_option maxRecDepth 20000 in
theorem sw_989 : (Jvm.Cond.code ({ cls := "SplitFares", name := "canBe", desc := "()I" } : Jvm.MethodName) prog_1_method_34_code (1 : Nat) (Option.some Jvm.ClassFile.FieldType.int)) ∈ sf_TB := sf_in5 29 rfl rfl
set_option maxRecDepth 20000 in
theorem sw_990 : (Jvm.Cond.methodLink "SplitFares" (265 : Nat) ({ cls := "SplitFares", name := "trainsThatFit", desc := "()I" } : Jvm.MethodName)) ∈ sf_TB := sf_in5 30 rfl rfl
set_option maxRecDepth 20000 in
theorem sw_992 : (Jvm.Cond.instanceMethod ({ cls := "SplitFares", name := "trainsThatFit", desc := "()I" } : Jvm.MethodName)) ∈ sf_TB := sf_in5 32 rfl rfl
set_option maxRecDepth 20000 in
theorem sw_993 : (Jvm.Cond.code ({ cls := "SplitFares", name := "trainsThatFit", desc := "()I" } : Jvm.MethodName) prog_1_method_54_code (6 : Nat) (Option.some Jvm.ClassFile.FieldType.int)) ∈ sf_TB := sf_in5 33 rfl rfl
set_option maxRecDepth 20000 in
theorem sw_994 : (Jvm.Cond.methodLink "SplitFares" (319 : Nat) ({ cls := "SplitFares", name := "answerOf", desc := "(II)I" } : Jvm.MethodName)) ∈ sf_TB := sf_in5 34 rfl rfl
set_option maxRecDepth 20000 in
theorem sw_996 : (Jvm.Cond.instanceMethod ({ cls := "SplitFares", name := "answerOf", desc := "(II)I" } : Jvm.MethodName)) ∈ sf_TB := sf_in5 36 rfl rfl
set_option maxRecDepth 20000 in
theorem sw_997 : (Jvm.Cond.code ({ cls := "SplitFares", name := "answerOf", desc := "(II)I" } : Jvm.MethodName) prog_1_method_53_code (4 : Nat) (Option.some Jvm.ClassFile.FieldType.int)) ∈ sf_TB := sf_in5 37 rfl rfl
set_option maxRecDepth 20000 in
theorem sw_998 : (Jvm.Cond.methodLink "SplitFaresLaw" (151 : Nat) ({ cls := "SplitFares", name := "ask", desc := "(I)I" } : Jvm.MethodName)) ∈ sf_TB := sf_in5 38 rfl rfl
set_option maxRecDepth 20000 in
theorem sw_999 : (Jvm.Cond.instanceMethod ({ cls := "SplitFares", name := "ask", desc := "(I)I" } : Jvm.MethodName)) ∈ sf_TB := sf_in5 39 rfl rfl
set_option maxRecDepth 20000 in
theorem sw_1000 : (Jvm.Cond.selects "SplitFares" ({ cls := "SplitFares", name := "ask", desc := "(I)I" } : Jvm.MethodName) ({ cls := "SplitFares", name := "ask", desc := "(I)I" } : Jvm.MethodName)) ∈ sf_TB := sf_in5 40 rfl rfl
set_option maxRecDepth 20000 in
theorem sw_1001 : (Jvm.Cond.code ({ cls := "SplitFares", name := "ask", desc := "(I)I" } : Jvm.MethodName) prog_1_method_35_code (7 : Nat) (Option.some Jvm.ClassFile.FieldType.int)) ∈ sf_TB := sf_in5 41 rfl rfl
set_option maxRecDepth 20000 in
theorem sw_1002 : (Jvm.Cond.methodLink "SplitFares" (268 : Nat) ({ cls := "SplitFares", name := "mostAlike", desc := "(II)I" } : Jvm.MethodName)) ∈ sf_TB := sf_in5 42 rfl rfl
set_option maxRecDepth 20000 in
theorem sw_1004 : (Jvm.Cond.instanceMethod ({ cls := "SplitFares", name := "mostAlike", desc := "(II)I" } : Jvm.MethodName)) ∈ sf_TB := sf_in5 44 rfl rfl
set_option maxRecDepth 20000 in
theorem sw_1005 : (Jvm.Cond.code ({ cls := "SplitFares", name := "mostAlike", desc := "(II)I" } : Jvm.MethodName) prog_1_method_55_code (8 : Nat) (Option.some Jvm.ClassFile.FieldType.int)) ∈ sf_TB := sf_in5 45 rfl rfl
set_option maxRecDepth 20000 in
theorem sw_1006 : (Jvm.Cond.methodLink "SplitFares" (325 : Nat) ({ cls := "java/lang/Math", name := "max", desc := "(II)I" } : Jvm.MethodName)) ∈ sf_TB := sf_in5 46 rfl rfl
set_option maxRecDepth 20000 in
theorem sw_1007 : (Jvm.Cond.methodLink "SplitFaresLaw" (155 : Nat) ({ cls := "SplitFares", name := "few", desc := "(II)J" } : Jvm.MethodName)) ∈ sf_TB := sf_in5 47 rfl rfl
set_option maxRecDepth 20000 in
theorem sw_1008 : (Jvm.Cond.instanceMethod ({ cls := "SplitFares", name := "few", desc := "(II)J" } : Jvm.MethodName)) ∈ sf_TB := sf_in5 48 rfl rfl
set_option maxRecDepth 20000 in
theorem sw_1009 : (Jvm.Cond.selects "SplitFares" ({ cls := "SplitFares", name := "few", desc := "(II)J" } : Jvm.MethodName) ({ cls := "SplitFares", name := "few", desc := "(II)J" } : Jvm.MethodName)) ∈ sf_TB := sf_in5 49 rfl rfl
set_option maxRecDepth 20000 in
theorem sw_1010 : (Jvm.Cond.code ({ cls := "SplitFares", name := "few", desc := "(II)J" } : Jvm.MethodName) prog_1_method_36_code (9 : Nat) (Option.some Jvm.ClassFile.FieldType.long)) ∈ sf_TB := sf_in5 50 rfl rfl
set_option maxRecDepth 20000 in
theorem sw_1011 : (Jvm.Cond.constantLong "SplitFares" (271 : Nat) (-1 : Int64)) ∈ sf_TB := sf_in5 51 rfl rfl
set_option maxRecDepth 20000 in
theorem sw_1012 : (Jvm.Cond.methodLink "SplitFares" (273 : Nat) ({ cls := "java/util/Arrays", name := "fill", desc := "([JJ)V" } : Jvm.MethodName)) ∈ sf_TB := sf_in5 52 rfl rfl
set_option maxRecDepth 20000 in
theorem sw_1013 : (Jvm.Cond.static ({ cls := "java/util/Arrays", name := "fill", desc := "([JJ)V" } : Jvm.MethodName)) ∈ sf_TB := sf_in5 53 rfl rfl
set_option maxRecDepth 20000 in
theorem sw_1014 : (Jvm.Cond.code ({ cls := "java/util/Arrays", name := "fill", desc := "([JJ)V" } : Jvm.MethodName) prog_20_method_101_code (5 : Nat) (Option.none : Option Jvm.ClassFile.FieldType)) ∈ sf_TB := sf_in5 54 rfl rfl
set_option maxRecDepth 20000 in
theorem sw_1015 : (Jvm.Cond.constantLong "SplitFares" (279 : Nat) (1000000000000 : Int64)) ∈ sf_TB := sf_in5 55 rfl rfl
set_option maxRecDepth 20000 in
theorem sw_1016 : (Jvm.Cond.constantLong "SplitFares" (281 : Nat) (10 : Int64)) ∈ sf_TB := sf_in5 56 rfl rfl
set_option maxRecDepth 20000 in
theorem sw_1017 : (Jvm.Cond.methodLink "SplitFaresLaw" (160 : Nat) ({ cls := "SplitFares", name := "compare", desc := "(III)I" } : Jvm.MethodName)) ∈ sf_TB := sf_in5 57 rfl rfl
set_option maxRecDepth 20000 in
theorem sw_1018 : (Jvm.Cond.instanceMethod ({ cls := "SplitFares", name := "compare", desc := "(III)I" } : Jvm.MethodName)) ∈ sf_TB := sf_in5 58 rfl rfl
set_option maxRecDepth 20000 in
theorem sw_1019 : (Jvm.Cond.selects "SplitFares" ({ cls := "SplitFares", name := "compare", desc := "(III)I" } : Jvm.MethodName) ({ cls := "SplitFares", name := "compare", desc := "(III)I" } : Jvm.MethodName)) ∈ sf_TB := sf_in5 59 rfl rfl
set_option maxRecDepth 20000 in
theorem sw_1020 : (Jvm.Cond.code ({ cls := "SplitFares", name := "compare", desc := "(III)I" } : Jvm.MethodName) prog_1_method_37_code (5 : Nat) (Option.some Jvm.ClassFile.FieldType.int)) ∈ sf_TB := sf_in5 60 rfl rfl
set_option maxRecDepth 20000 in
theorem sw_1021 : (Jvm.Cond.methodLink "SplitFares" (283 : Nat) ({ cls := "SplitFares$Office", name := "costBy", desc := "(LSplitFares$Program;III)I" } : Jvm.MethodName)) ∈ sf_TB := sf_in5 61 rfl rfl
set_option maxRecDepth 20000 in
theorem sw_1022 : (Jvm.Cond.methodLink "SplitFaresLaw" (164 : Nat) ({ cls := "SplitFares", name := "months", desc := "(II)I" } : Jvm.MethodName)) ∈ sf_TB := sf_in5 62 rfl rfl
set_option maxRecDepth 20000 in
theorem sw_1023 : (Jvm.Cond.instanceMethod ({ cls := "SplitFares", name := "months", desc := "(II)I" } : Jvm.MethodName)) ∈ sf_TB := sf_in5 63 rfl rfl
set_option maxRecDepth 20000 in
theorem sw_1024 : (Jvm.Cond.selects "SplitFares" ({ cls := "SplitFares", name := "months", desc := "(II)I" } : Jvm.MethodName) ({ cls := "SplitFares", name := "months", desc := "(II)I" } : Jvm.MethodName)) ∈ sf_TB := sf_in5 64 rfl rfl
set_option maxRecDepth 20000 in
theorem sw_1025 : (Jvm.Cond.code ({ cls := "SplitFares", name := "months", desc := "(II)I" } : Jvm.MethodName) prog_1_method_38_code (5 : Nat) (Option.some Jvm.ClassFile.FieldType.int)) ∈ sf_TB := sf_in5 65 rfl rfl
set_option maxRecDepth 20000 in
theorem sw_1026 : (Jvm.Cond.constant "SplitFares" (287 : Nat) (1000000 : Int32)) ∈ sf_TB := sf_in5 66 rfl rfl
set_option maxRecDepth 20000 in
theorem sw_1027 : (Jvm.Cond.methodLink "SplitFares" (291 : Nat) ({ cls := "SplitFares$Desk", name := "drawMonths", desc := "(II)I" } : Jvm.MethodName)) ∈ sf_TB := sf_in5 67 rfl rfl
set_option maxRecDepth 20000 in
theorem sw_1028 : (Jvm.Cond.instanceMethod ({ cls := "SplitFares$Desk", name := "drawMonths", desc := "(II)I" } : Jvm.MethodName)) ∈ sf_TB := sf_in5 68 rfl rfl
set_option maxRecDepth 20000 in
theorem sw_1029 : (Jvm.Cond.selects "SplitFares$Desk" ({ cls := "SplitFares$Desk", name := "drawMonths", desc := "(II)I" } : Jvm.MethodName) ({ cls := "SplitFares$Desk", name := "drawMonths", desc := "(II)I" } : Jvm.MethodName)) ∈ sf_TB := sf_in5 69 rfl rfl
set_option maxRecDepth 20000 in
theorem sw_1030 : (Jvm.Cond.code ({ cls := "SplitFares$Desk", name := "drawMonths", desc := "(II)I" } : Jvm.MethodName) prog_2_method_10_code (8 : Nat) (Option.some Jvm.ClassFile.FieldType.int)) ∈ sf_TB := sf_in5 70 rfl rfl
set_option maxRecDepth 20000 in
theorem sw_1031 : (Jvm.Cond.methodLink "SplitFares$Desk" (169 : Nat) ({ cls := "SplitFares$Desk", name := "drawAfter", desc := "(I)I" } : Jvm.MethodName)) ∈ sf_TB := sf_in5 71 rfl rfl
set_option maxRecDepth 20000 in
theorem sw_1032 : (Jvm.Cond.static ({ cls := "SplitFares$Desk", name := "drawAfter", desc := "(I)I" } : Jvm.MethodName)) ∈ sf_TB := sf_in5 72 rfl rfl
set_option maxRecDepth 20000 in
theorem sw_1033 : (Jvm.Cond.code ({ cls := "SplitFares$Desk", name := "drawAfter", desc := "(I)I" } : Jvm.MethodName) prog_2_method_11_code (1 : Nat) (Option.some Jvm.ClassFile.FieldType.int)) ∈ sf_TB := sf_in5 73 rfl rfl
set_option maxRecDepth 20000 in
theorem sw_1034 : (Jvm.Cond.constant "SplitFares$Desk" (175 : Nat) (1000003 : Int32)) ∈ sf_TB := sf_in5 74 rfl rfl
set_option maxRecDepth 20000 in
theorem sw_1035 : (Jvm.Cond.methodLink "SplitFares$Desk" (172 : Nat) ({ cls := "java/lang/Math", name := "max", desc := "(II)I" } : Jvm.MethodName)) ∈ sf_TB := sf_in5 75 rfl rfl
set_option maxRecDepth 20000 in
theorem sw_1036 : (Jvm.Cond.methodLink "SplitFares" (294 : Nat) ({ cls := "SplitFares$Pocket", name := "heldInAll", desc := "()I" } : Jvm.MethodName)) ∈ sf_TB := sf_in5 76 rfl rfl
set_option maxRecDepth 20000 in
theorem sw_1037 : (Jvm.Cond.methodLink "SplitFaresLaw" (168 : Nat) ({ cls := "SplitFares", name := "drawn", desc := "(I)I" } : Jvm.MethodName)) ∈ sf_TB := sf_in5 77 rfl rfl
set_option maxRecDepth 20000 in
theorem sw_1038 : (Jvm.Cond.instanceMethod ({ cls := "SplitFares", name := "drawn", desc := "(I)I" } : Jvm.MethodName)) ∈ sf_TB := sf_in5 78 rfl rfl
set_option maxRecDepth 20000 in
theorem sw_1039 : (Jvm.Cond.selects "SplitFares" ({ cls := "SplitFares", name := "drawn", desc := "(I)I" } : Jvm.MethodName) ({ cls := "SplitFares", name := "drawn", desc := "(I)I" } : Jvm.MethodName)) ∈ sf_TB := sf_in5 79 rfl rfl
set_option maxRecDepth 20000 in
theorem sw_1040 : (Jvm.Cond.code ({ cls := "SplitFares", name := "drawn", desc := "(I)I" } : Jvm.MethodName) prog_1_method_39_code (2 : Nat) (Option.some Jvm.ClassFile.FieldType.int)) ∈ sf_TB := sf_in5 80 rfl rfl
set_option maxRecDepth 20000 in
theorem sw_1041 : (Jvm.Cond.methodLink "SplitFaresLaw" (172 : Nat) ({ cls := "SplitFares", name := "image", desc := "(I)I" } : Jvm.MethodName)) ∈ sf_TB := sf_in5 81 rfl rfl
set_option maxRecDepth 20000 in
theorem sw_1042 : (Jvm.Cond.instanceMethod ({ cls := "SplitFares", name := "image", desc := "(I)I" } : Jvm.MethodName)) ∈ sf_TB := sf_in5 82 rfl rfl
set_option maxRecDepth 20000 in
theorem sw_1043 : (Jvm.Cond.selects "SplitFares" ({ cls := "SplitFares", name := "image", desc := "(I)I" } : Jvm.MethodName) ({ cls := "SplitFares", name := "image", desc := "(I)I" } : Jvm.MethodName)) ∈ sf_TB := sf_in5 83 rfl rfl
set_option maxRecDepth 20000 in
theorem sw_1044 : (Jvm.Cond.code ({ cls := "SplitFares", name := "image", desc := "(I)I" } : Jvm.MethodName) prog_1_method_40_code (3 : Nat) (Option.some Jvm.ClassFile.FieldType.int)) ∈ sf_TB := sf_in5 84 rfl rfl
set_option maxRecDepth 20000 in
theorem sw_1046 : (Jvm.Cond.methodLink "SplitFares" (301 : Nat) ({ cls := "SplitFares$Office", name := "copyFrom", desc := "(LSplitFares$Office;)V" } : Jvm.MethodName)) ∈ sf_TB := sf_in5 86 rfl rfl
set_option maxRecDepth 20000 in
theorem sw_1047 : (Jvm.Cond.instanceMethod ({ cls := "SplitFares$Office", name := "copyFrom", desc := "(LSplitFares$Office;)V" } : Jvm.MethodName)) ∈ sf_TB := sf_in5 87 rfl rfl
set_option maxRecDepth 20000 in
theorem sw_1048 : (Jvm.Cond.selects "SplitFares$Office" ({ cls := "SplitFares$Office", name := "copyFrom", desc := "(LSplitFares$Office;)V" } : Jvm.MethodName) ({ cls := "SplitFares$Office", name := "copyFrom", desc := "(LSplitFares$Office;)V" } : Jvm.MethodName)) ∈ sf_TB := sf_in5 88 rfl rfl
set_option maxRecDepth 20000 in
theorem sw_1049 : (Jvm.Cond.code ({ cls := "SplitFares$Office", name := "copyFrom", desc := "(LSplitFares$Office;)V" } : Jvm.MethodName) prog_5_method_2_code (3 : Nat) (Option.none : Option Jvm.ClassFile.FieldType)) ∈ sf_TB := sf_in5 89 rfl rfl
set_option maxRecDepth 20000 in
theorem sw_1050 : (Jvm.Cond.methodLink "SplitFares$Office" (66 : Nat) ({ cls := "SplitFares$Pocket", name := "copyFrom", desc := "(LSplitFares$Pocket;)V" } : Jvm.MethodName)) ∈ sf_TB := sf_in5 90 rfl rfl
set_option maxRecDepth 20000 in
theorem sw_1051 : (Jvm.Cond.methodLink "SplitFares$Office" (70 : Nat) ({ cls := "java/lang/System", name := "arraycopy", desc := "(Ljava/lang/Object;ILjava/lang/Object;II)V" } : Jvm.MethodName)) ∈ sf_TB := sf_in5 91 rfl rfl
set_option maxRecDepth 20000 in
theorem sw_1052 : (Jvm.Cond.methodLink "SplitFaresLaw" (176 : Nat) ({ cls := "SplitFares", name := "back", desc := "(I)I" } : Jvm.MethodName)) ∈ sf_TB := sf_in5 92 rfl rfl
set_option maxRecDepth 20000 in
theorem sw_1053 : (Jvm.Cond.instanceMethod ({ cls := "SplitFares", name := "back", desc := "(I)I" } : Jvm.MethodName)) ∈ sf_TB := sf_in5 93 rfl rfl
set_option maxRecDepth 20000 in
theorem sw_1054 : (Jvm.Cond.selects "SplitFares" ({ cls := "SplitFares", name := "back", desc := "(I)I" } : Jvm.MethodName) ({ cls := "SplitFares", name := "back", desc := "(I)I" } : Jvm.MethodName)) ∈ sf_TB := sf_in5 94 rfl rfl
set_option maxRecDepth 20000 in
theorem sw_1055 : (Jvm.Cond.code ({ cls := "SplitFares", name := "back", desc := "(I)I" } : Jvm.MethodName) prog_1_method_41_code (3 : Nat) (Option.some Jvm.ClassFile.FieldType.int)) ∈ sf_TB := sf_in5 95 rfl rfl
set_option maxRecDepth 20000 in
theorem sw_1056 : (Jvm.Cond.methodLink "SplitFaresLaw" (180 : Nat) ({ cls := "SplitFares", name := "count", desc := "(I)I" } : Jvm.MethodName)) ∈ sf_TB := sf_in5 96 rfl rfl
set_option maxRecDepth 20000 in
theorem sw_1057 : (Jvm.Cond.instanceMethod ({ cls := "SplitFares", name := "count", desc := "(I)I" } : Jvm.MethodName)) ∈ sf_TB := sf_in5 97 rfl rfl
set_option maxRecDepth 20000 in
theorem sw_1058 : (Jvm.Cond.selects "SplitFares" ({ cls := "SplitFares", name := "count", desc := "(I)I" } : Jvm.MethodName) ({ cls := "SplitFares", name := "count", desc := "(I)I" } : Jvm.MethodName)) ∈ sf_TB := sf_in5 98 rfl rfl
set_option maxRecDepth 20000 in
theorem sw_1059 : (Jvm.Cond.code ({ cls := "SplitFares", name := "count", desc := "(I)I" } : Jvm.MethodName) prog_1_method_42_code (3 : Nat) (Option.some Jvm.ClassFile.FieldType.int)) ∈ sf_TB := sf_in5 99 rfl rfl
set_option maxRecDepth 20000 in
theorem sw_1060 : (Jvm.Cond.fieldLink "SplitFares" (304 : Nat) "SplitFares" "REFUSALS_IN_ORDER" "[I") ∈ sf_TB := sf_in5 100 rfl rfl
set_option maxRecDepth 20000 in
theorem sw_1062 : (Jvm.Cond.methodLink "SplitFaresLaw" (184 : Nat) ({ cls := "SplitFares", name := "status", desc := "()I" } : Jvm.MethodName)) ∈ sf_TB := sf_in5 102 rfl rfl
set_option maxRecDepth 20000 in
theorem sw_1063 : (Jvm.Cond.instanceMethod ({ cls := "SplitFares", name := "status", desc := "()I" } : Jvm.MethodName)) ∈ sf_TB := sf_in5 103 rfl rfl
set_option maxRecDepth 20000 in
theorem sw_1064 : (Jvm.Cond.selects "SplitFares" ({ cls := "SplitFares", name := "status", desc := "()I" } : Jvm.MethodName) ({ cls := "SplitFares", name := "status", desc := "()I" } : Jvm.MethodName)) ∈ sf_TB := sf_in5 104 rfl rfl
set_option maxRecDepth 20000 in
theorem sw_1065 : (Jvm.Cond.code ({ cls := "SplitFares", name := "status", desc := "()I" } : Jvm.MethodName) prog_1_method_43_code (1 : Nat) (Option.some Jvm.ClassFile.FieldType.int)) ∈ sf_TB := sf_in5 105 rfl rfl
set_option maxRecDepth 20000 in
theorem sw_1066 : (Jvm.Cond.classLink "SplitFaresLaw" (10 : Nat) "SplitFaresModel") ∈ sf_TB := sf_in5 106 rfl rfl
set_option maxRecDepth 20000 in
theorem sw_1067 : (Jvm.Cond.instantiable "SplitFaresModel" (53 : Nat)) ∈ sf_TB := sf_in5 107 rfl rfl
set_option maxRecDepth 20000 in
theorem sw_1068 : (Jvm.Cond.methodLink "SplitFaresLaw" (12 : Nat) ({ cls := "SplitFaresModel", name := "<init>", desc := "()V" } : Jvm.MethodName)) ∈ sf_TB := sf_in5 108 rfl rfl
set_option maxRecDepth 20000 in
theorem sw_1069 : (Jvm.Cond.instanceMethod ({ cls := "SplitFaresModel", name := "<init>", desc := "()V" } : Jvm.MethodName)) ∈ sf_TB := sf_in5 109 rfl rfl
set_option maxRecDepth 20000 in
theorem sw_1070 : (Jvm.Cond.code ({ cls := "SplitFaresModel", name := "<init>", desc := "()V" } : Jvm.MethodName) prog_13_method_12_code (1 : Nat) (Option.none : Option Jvm.ClassFile.FieldType)) ∈ sf_TB := sf_in5 110 rfl rfl
set_option maxRecDepth 20000 in
theorem sw_1071 : (Jvm.Cond.methodLink "SplitFaresModel" (26 : Nat) ({ cls := "java/lang/Object", name := "<init>", desc := "()V" } : Jvm.MethodName)) ∈ sf_TB := sf_in5 111 rfl rfl
set_option maxRecDepth 20000 in
theorem sw_1072 : (Jvm.Cond.fieldLink "SplitFaresModel" (3 : Nat) "SplitFaresModel" "status" "I") ∈ sf_TB := sf_in5 112 rfl rfl
set_option maxRecDepth 20000 in
theorem sw_1073 : (Jvm.Cond.fieldLink "SplitFaresModel" (7 : Nat) "SplitFaresModel" "refused" "[I") ∈ sf_TB := sf_in5 113 rfl rfl
set_option maxRecDepth 20000 in
theorem sw_1074 : (Jvm.Cond.fieldLink "SplitFaresModel" (32 : Nat) "SplitFaresModel" "kept" "[I") ∈ sf_TB := sf_in5 114 rfl rfl
set_option maxRecDepth 20000 in
theorem sw_1075 : (Jvm.Cond.fieldLink "SplitFaresModel" (35 : Nat) "SplitFaresModel" "images" "[I") ∈ sf_TB := sf_in5 115 rfl rfl
set_option maxRecDepth 20000 in
theorem sw_1076 : (Jvm.Cond.fieldLink "SplitFaresModel" (38 : Nat) "SplitFaresModel" "hasImage" "[Z") ∈ sf_TB := sf_in5 116 rfl rfl
set_option maxRecDepth 20000 in
theorem sw_1077 : (Jvm.Cond.fieldLink "SplitFaresModel" (42 : Nat) "SplitFaresModel" "aside" "[I") ∈ sf_TB := sf_in5 117 rfl rfl
set_option maxRecDepth 20000 in
theorem sw_1078 : (Jvm.Cond.fieldLink "SplitFaresModel" (159 : Nat) "SplitFaresModel" "delays0" "I") ∈ sf_TB := sf_in5 118 rfl rfl
set_option maxRecDepth 20000 in
theorem sw_1079 : (Jvm.Cond.fieldLink "SplitFaresModel" (45 : Nat) "SplitFaresModel" "words" "[B") ∈ sf_TB := sf_in5 119 rfl rfl
set_option maxRecDepth 20000 in
theorem sw_1080 : (Jvm.Cond.fieldLink "SplitFaresModel" (234 : Nat) "SplitFaresModel" "firstWord" "I") ∈ sf_TB := sf_in5 120 rfl rfl
set_option maxRecDepth 20000 in
theorem sw_1081 : (Jvm.Cond.fieldLink "SplitFaresModel" (237 : Nat) "SplitFaresModel" "lastWord" "I") ∈ sf_TB := sf_in5 121 rfl rfl
set_option maxRecDepth 20000 in
theorem sw_1082 : (Jvm.Cond.fieldLink "SplitFaresModel" (208 : Nat) "SplitFaresModel" "isOrders" "Z") ∈ sf_TB := sf_in5 122 rfl rfl
set_option maxRecDepth 20000 in
theorem sw_1083 : (Jvm.Cond.fieldLink "SplitFaresModel" (49 : Nat) "SplitFaresModel" "tape" "[B") ∈ sf_TB := sf_in5 123 rfl rfl
set_option maxRecDepth 20000 in
theorem sw_1084 : (Jvm.Cond.fieldLink "SplitFaresModel" (52 : Nat) "SplitFaresModel" "five" "[I") ∈ sf_TB := sf_in5 124 rfl rfl
set_option maxRecDepth 20000 in
theorem sw_1085 : (Jvm.Cond.fieldLink "SplitFaresModel" (156 : Nat) "SplitFaresModel" "taped" "I") ∈ sf_TB := sf_in5 125 rfl rfl
set_option maxRecDepth 20000 in
theorem sw_1086 : (Jvm.Cond.fieldLink "SplitFaresModel" (55 : Nat) "SplitFaresModel" "fault" "I") ∈ sf_TB := sf_in5 126 rfl rfl
set_option maxRecDepth 20000 in
theorem sw_1087 : (Jvm.Cond.fieldLink "SplitFaresModel" (58 : Nat) "SplitFaresModel" "code" "[I") ∈ sf_TB := sf_in5 127 rfl rfl
set_option maxRecDepth 20000 in
theorem sw_1088 : (Jvm.Cond.fieldLink "SplitFaresModel" (61 : Nat) "SplitFaresModel" "value" "[I") ∈ sf_TB := sf_in5 128 rfl rfl
set_option maxRecDepth 20000 in
theorem sw_1089 : (Jvm.Cond.fieldLink "SplitFaresModel" (64 : Nat) "SplitFaresModel" "placed" "[I") ∈ sf_TB := sf_in5 129 rfl rfl
set_option maxRecDepth 20000 in
theorem sw_1090 : (Jvm.Cond.fieldLink "SplitFaresModel" (162 : Nat) "SplitFaresModel" "tokens" "I") ∈ sf_TB := sf_in5 130 rfl rfl
set_option maxRecDepth 20000 in
theorem sw_1091 : (Jvm.Cond.fieldLink "SplitFaresModel" (182 : Nat) "SplitFaresModel" "token" "I") ∈ sf_TB := sf_in5 131 rfl rfl
set_option maxRecDepth 20000 in
theorem sw_1092 : (Jvm.Cond.fieldLink "SplitFaresModel" (191 : Nat) "SplitFaresModel" "leaves" "I") ∈ sf_TB := sf_in5 132 rfl rfl
set_option maxRecDepth 20000 in
theorem sw_1093 : (Jvm.Cond.fieldLink "SplitFaresModel" (175 : Nat) "SplitFaresModel" "bad" "I") ∈ sf_TB := sf_in5 133 rfl rfl
set_option maxRecDepth 20000 in
theorem sw_1094 : (Jvm.Cond.fieldLink "SplitFaresModel" (265 : Nat) "SplitFaresModel" "go" "I") ∈ sf_TB := sf_in5 134 rfl rfl
set_option maxRecDepth 20000 in
theorem sw_1095 : (Jvm.Cond.fieldLink "SplitFaresModel" (262 : Nat) "SplitFaresModel" "goEnd" "I") ∈ sf_TB := sf_in5 135 rfl rfl
set_option maxRecDepth 20000 in
theorem sw_1096 : (Jvm.Cond.fieldLink "SplitFaresModel" (275 : Nat) "SplitFaresModel" "broken" "Z") ∈ sf_TB := sf_in5 136 rfl rfl
set_option maxRecDepth 20000 in
theorem sw_1097 : (Jvm.Cond.fieldLink "SplitFaresModel" (295 : Nat) "SplitFaresModel" "inOrders" "Z") ∈ sf_TB := sf_in5 137 rfl rfl
set_option maxRecDepth 20000 in
theorem sw_1098 : (Jvm.Cond.fieldLink "SplitFaresModel" (67 : Nat) "SplitFaresModel" "asked" "[I") ∈ sf_TB := sf_in5 138 rfl rfl
set_option maxRecDepth 20000 in
theorem sw_1099 : (Jvm.Cond.fieldLink "SplitFaresModel" (301 : Nat) "SplitFaresModel" "orderDone" "I") ∈ sf_TB := sf_in5 139 rfl rfl
set_option maxRecDepth 20000 in
theorem sw_1100 : (Jvm.Cond.fieldLink "SplitFaresModel" (304 : Nat) "SplitFaresModel" "orderLatest" "I") ∈ sf_TB := sf_in5 140 rfl rfl
set_option maxRecDepth 20000 in
theorem sw_1101 : (Jvm.Cond.fieldLink "SplitFaresModel" (70 : Nat) "SplitFaresModel" "line" "[I") ∈ sf_TB := sf_in5 141 rfl rfl
set_option maxRecDepth 20000 in
theorem sw_1102 : (Jvm.Cond.fieldLink "SplitFaresModel" (345 : Nat) "SplitFaresModel" "lineMany" "I") ∈ sf_TB := sf_in5 142 rfl rfl
set_option maxRecDepth 20000 in
theorem sw_1103 : (Jvm.Cond.fieldLink "SplitFaresModel" (73 : Nat) "SplitFaresModel" "leg" "[I") ∈ sf_TB := sf_in5 143 rfl rfl
set_option maxRecDepth 20000 in
theorem sw_1104 : (Jvm.Cond.fieldLink "SplitFaresModel" (76 : Nat) "SplitFaresModel" "left" "[I") ∈ sf_TB := sf_in5 144 rfl rfl
set_option maxRecDepth 20000 in
theorem sw_1105 : (Jvm.Cond.fieldLink "SplitFaresModel" (79 : Nat) "SplitFaresModel" "leftBy" "[I") ∈ sf_TB := sf_in5 145 rfl rfl
set_option maxRecDepth 20000 in
theorem sw_1106 : (Jvm.Cond.fieldLink "SplitFaresModel" (82 : Nat) "SplitFaresModel" "waysLeft" "[I") ∈ sf_TB := sf_in5 146 rfl rfl
set_option maxRecDepth 20000 in
theorem sw_1107 : (Jvm.Cond.fieldLink "SplitFaresModel" (85 : Nat) "SplitFaresModel" "there" "[I") ∈ sf_TB := sf_in5 147 rfl rfl
set_option maxRecDepth 20000 in
theorem sw_1108 : (Jvm.Cond.fieldLink "SplitFaresModel" (88 : Nat) "SplitFaresModel" "back0" "[I") ∈ sf_TB := sf_in5 148 rfl rfl
set_option maxRecDepth 20000 in
theorem sw_1109 : (Jvm.Cond.fieldLink "SplitFaresModel" (91 : Nat) "SplitFaresModel" "both" "[I") ∈ sf_TB := sf_in5 149 rfl rfl
set_option maxRecDepth 20000 in
theorem sw_1110 : (Jvm.Cond.fieldLink "SplitFaresModel" (94 : Nat) "SplitFaresModel" "left0" "[I") ∈ sf_TB := sf_in5 150 rfl rfl
set_option maxRecDepth 20000 in
theorem sw_1111 : (Jvm.Cond.fieldLink "SplitFaresModel" (97 : Nat) "SplitFaresModel" "leftAhead" "[I") ∈ sf_TB := sf_in5 151 rfl rfl
set_option maxRecDepth 20000 in
theorem sw_1112 : (Jvm.Cond.fieldLink "SplitFaresModel" (11 : Nat) "SplitFaresModel" "undoMany" "I") ∈ sf_TB := sf_in5 152 rfl rfl
set_option maxRecDepth 20000 in
theorem sw_1113 : (Jvm.Cond.fieldLink "SplitFaresModel" (100 : Nat) "SplitFaresModel" "fares" "[I") ∈ sf_TB := sf_in5 153 rfl rfl
set_option maxRecDepth 20000 in
theorem sw_1114 : (Jvm.Cond.fieldLink "SplitFaresModel" (103 : Nat) "SplitFaresModel" "shares" "[J") ∈ sf_TB := sf_in5 154 rfl rfl
set_option maxRecDepth 20000 in
theorem sw_1115 : (Jvm.Cond.fieldLink "SplitFaresModel" (107 : Nat) "SplitFaresModel" "stopped0" "I") ∈ sf_TB := sf_in5 155 rfl rfl
set_option maxRecDepth 20000 in
theorem sw_1116 : (Jvm.Cond.fieldLink "SplitFaresModel" (468 : Nat) "SplitFaresModel" "orderAt" "I") ∈ sf_TB := sf_in5 156 rfl rfl
set_option maxRecDepth 20000 in
theorem sw_1117 : (Jvm.Cond.fieldLink "SplitFaresModel" (483 : Nat) "SplitFaresModel" "howOften" "I") ∈ sf_TB := sf_in5 157 rfl rfl
set_option maxRecDepth 20000 in
theorem sw_1118 : (Jvm.Cond.fieldLink "SplitFaresModel" (477 : Nat) "SplitFaresModel" "head" "I") ∈ sf_TB := sf_in5 158 rfl rfl
set_option maxRecDepth 20000 in
theorem sw_1119 : (Jvm.Cond.fieldLink "SplitFaresModel" (480 : Nat) "SplitFaresModel" "sumsAre" "Z") ∈ sf_TB := sf_in5 159 rfl rfl
set_option maxRecDepth 20000 in
theorem sw_1120 : (Jvm.Cond.fieldLink "SplitFaresModel" (486 : Nat) "SplitFaresModel" "testIs" "Z") ∈ sf_TB := sf_in5 160 rfl rfl
set_option maxRecDepth 20000 in
theorem sw_1121 : (Jvm.Cond.fieldLink "SplitFaresModel" (110 : Nat) "SplitFaresModel" "sums" "[J") ∈ sf_TB := sf_in5 161 rfl rfl
set_option maxRecDepth 20000 in
theorem sw_1122 : (Jvm.Cond.fieldLink "SplitFaresModel" (113 : Nat) "SplitFaresModel" "drawnTold" "[I") ∈ sf_TB := sf_in5 162 rfl rfl
set_option maxRecDepth 20000 in
theorem sw_1123 : (Jvm.Cond.fieldLink "SplitFaresModel" (514 : Nat) "SplitFaresModel" "hasDrawn" "Z") ∈ sf_TB := sf_in5 163 rfl rfl
set_option maxRecDepth 20000 in
theorem sw_1124 : (Jvm.Cond.fieldLink "SplitFaresModel" (504 : Nat) "SplitFaresModel" "latest" "I") ∈ sf_TB := sf_in5 164 rfl rfl
set_option maxRecDepth 20000 in
theorem sw_1125 : (Jvm.Cond.lays "SplitFaresModel" "SplitFaresModel" "status" "I") ∈ sf_TB := sf_in5 165 rfl rfl
set_option maxRecDepth 20000 in
theorem sw_1127 : (Jvm.Cond.laysFinal "SplitFaresModel" "SplitFaresModel" "refused" "[I") ∈ sf_TB := sf_in5 167 rfl rfl
set_option maxRecDepth 20000 in
theorem sw_1129 : (Jvm.Cond.laysFinal "SplitFaresModel" "SplitFaresModel" "kept" "[I") ∈ sf_TB := sf_in5 169 rfl rfl
set_option maxRecDepth 20000 in
theorem sw_1131 : (Jvm.Cond.laysFinal "SplitFaresModel" "SplitFaresModel" "images" "[I") ∈ sf_TB := sf_in5 171 rfl rfl
set_option maxRecDepth 20000 in
theorem sw_1133 : (Jvm.Cond.laysFinal "SplitFaresModel" "SplitFaresModel" "hasImage" "[Z") ∈ sf_TB := sf_in5 173 rfl rfl
set_option maxRecDepth 20000 in
theorem sw_1135 : (Jvm.Cond.laysFinal "SplitFaresModel" "SplitFaresModel" "aside" "[I") ∈ sf_TB := sf_in5 175 rfl rfl
set_option maxRecDepth 20000 in
theorem sw_1137 : (Jvm.Cond.lays "SplitFaresModel" "SplitFaresModel" "delays0" "I") ∈ sf_TB := sf_in5 177 rfl rfl
set_option maxRecDepth 20000 in
theorem sw_1139 : (Jvm.Cond.laysFinal "SplitFaresModel" "SplitFaresModel" "words" "[B") ∈ sf_TB := sf_in5 179 rfl rfl
set_option maxRecDepth 20000 in
theorem sw_1141 : (Jvm.Cond.lays "SplitFaresModel" "SplitFaresModel" "firstWord" "I") ∈ sf_TB := sf_in5 181 rfl rfl
set_option maxRecDepth 20000 in
theorem sw_1143 : (Jvm.Cond.lays "SplitFaresModel" "SplitFaresModel" "lastWord" "I") ∈ sf_TB := sf_in5 183 rfl rfl
set_option maxRecDepth 20000 in
theorem sw_1145 : (Jvm.Cond.lays "SplitFaresModel" "SplitFaresModel" "isOrders" "Z") ∈ sf_TB := sf_in5 185 rfl rfl
set_option maxRecDepth 20000 in
theorem sw_1147 : (Jvm.Cond.laysFinal "SplitFaresModel" "SplitFaresModel" "tape" "[B") ∈ sf_TB := sf_in5 187 rfl rfl
set_option maxRecDepth 20000 in
theorem sw_1149 : (Jvm.Cond.laysFinal "SplitFaresModel" "SplitFaresModel" "five" "[I") ∈ sf_TB := sf_in5 189 rfl rfl
set_option maxRecDepth 20000 in
theorem sw_1151 : (Jvm.Cond.lays "SplitFaresModel" "SplitFaresModel" "taped" "I") ∈ sf_TB := sf_in5 191 rfl rfl
set_option maxRecDepth 20000 in
theorem sw_1153 : (Jvm.Cond.lays "SplitFaresModel" "SplitFaresModel" "fault" "I") ∈ sf_TB := sf_in5 193 rfl rfl
set_option maxRecDepth 20000 in
theorem sw_1155 : (Jvm.Cond.laysFinal "SplitFaresModel" "SplitFaresModel" "code" "[I") ∈ sf_TB := sf_in5 195 rfl rfl
set_option maxRecDepth 20000 in
theorem sw_1157 : (Jvm.Cond.laysFinal "SplitFaresModel" "SplitFaresModel" "value" "[I") ∈ sf_TB := sf_in5 197 rfl rfl
set_option maxRecDepth 20000 in
theorem sw_1159 : (Jvm.Cond.laysFinal "SplitFaresModel" "SplitFaresModel" "placed" "[I") ∈ sf_TB := sf_in5 199 rfl rfl
set_option maxRecDepth 20000 in
theorem sw_1161 : (Jvm.Cond.lays "SplitFaresModel" "SplitFaresModel" "tokens" "I") ∈ sf_TB := sf_in5 201 rfl rfl
set_option maxRecDepth 20000 in
theorem sw_1163 : (Jvm.Cond.lays "SplitFaresModel" "SplitFaresModel" "token" "I") ∈ sf_TB := sf_in5 203 rfl rfl
set_option maxRecDepth 20000 in
theorem sw_1165 : (Jvm.Cond.lays "SplitFaresModel" "SplitFaresModel" "leaves" "I") ∈ sf_TB := sf_in5 205 rfl rfl
set_option maxRecDepth 20000 in
theorem sw_1167 : (Jvm.Cond.lays "SplitFaresModel" "SplitFaresModel" "bad" "I") ∈ sf_TB := sf_in5 207 rfl rfl
set_option maxRecDepth 20000 in
theorem sw_1169 : (Jvm.Cond.lays "SplitFaresModel" "SplitFaresModel" "go" "I") ∈ sf_TB := sf_in5 209 rfl rfl
set_option maxRecDepth 20000 in
theorem sw_1171 : (Jvm.Cond.lays "SplitFaresModel" "SplitFaresModel" "goEnd" "I") ∈ sf_TB := sf_in5 211 rfl rfl
set_option maxRecDepth 20000 in
theorem sw_1173 : (Jvm.Cond.lays "SplitFaresModel" "SplitFaresModel" "broken" "Z") ∈ sf_TB := sf_in5 213 rfl rfl
set_option maxRecDepth 20000 in
theorem sw_1175 : (Jvm.Cond.lays "SplitFaresModel" "SplitFaresModel" "inOrders" "Z") ∈ sf_TB := sf_in5 215 rfl rfl
set_option maxRecDepth 20000 in
theorem sw_1177 : (Jvm.Cond.laysFinal "SplitFaresModel" "SplitFaresModel" "asked" "[I") ∈ sf_TB := sf_in5 217 rfl rfl
set_option maxRecDepth 20000 in
theorem sw_1179 : (Jvm.Cond.lays "SplitFaresModel" "SplitFaresModel" "orderDone" "I") ∈ sf_TB := sf_in5 219 rfl rfl
set_option maxRecDepth 20000 in
theorem sw_1181 : (Jvm.Cond.lays "SplitFaresModel" "SplitFaresModel" "orderLatest" "I") ∈ sf_TB := sf_in5 221 rfl rfl
set_option maxRecDepth 20000 in
theorem sw_1183 : (Jvm.Cond.laysFinal "SplitFaresModel" "SplitFaresModel" "line" "[I") ∈ sf_TB := sf_in5 223 rfl rfl
set_option maxRecDepth 20000 in
theorem sw_1185 : (Jvm.Cond.lays "SplitFaresModel" "SplitFaresModel" "lineMany" "I") ∈ sf_TB := sf_in5 225 rfl rfl
set_option maxRecDepth 20000 in
theorem sw_1187 : (Jvm.Cond.laysFinal "SplitFaresModel" "SplitFaresModel" "leg" "[I") ∈ sf_TB := sf_in5 227 rfl rfl
set_option maxRecDepth 20000 in
theorem sw_1189 : (Jvm.Cond.laysFinal "SplitFaresModel" "SplitFaresModel" "left" "[I") ∈ sf_TB := sf_in5 229 rfl rfl
set_option maxRecDepth 20000 in
theorem sw_1191 : (Jvm.Cond.laysFinal "SplitFaresModel" "SplitFaresModel" "leftBy" "[I") ∈ sf_TB := sf_in5 231 rfl rfl
set_option maxRecDepth 20000 in
theorem sw_1193 : (Jvm.Cond.laysFinal "SplitFaresModel" "SplitFaresModel" "waysLeft" "[I") ∈ sf_TB := sf_in5 233 rfl rfl
set_option maxRecDepth 20000 in
theorem sw_1195 : (Jvm.Cond.laysFinal "SplitFaresModel" "SplitFaresModel" "there" "[I") ∈ sf_TB := sf_in5 235 rfl rfl
set_option maxRecDepth 20000 in
theorem sw_1197 : (Jvm.Cond.laysFinal "SplitFaresModel" "SplitFaresModel" "back0" "[I") ∈ sf_TB := sf_in5 237 rfl rfl
set_option maxRecDepth 20000 in
theorem sw_1199 : (Jvm.Cond.laysFinal "SplitFaresModel" "SplitFaresModel" "both" "[I") ∈ sf_TB := sf_in5 239 rfl rfl
set_option maxRecDepth 20000 in
theorem sw_1201 : (Jvm.Cond.laysFinal "SplitFaresModel" "SplitFaresModel" "left0" "[I") ∈ sf_TB := sf_in6 1 rfl rfl
set_option maxRecDepth 20000 in
theorem sw_1203 : (Jvm.Cond.laysFinal "SplitFaresModel" "SplitFaresModel" "leftAhead" "[I") ∈ sf_TB := sf_in6 3 rfl rfl
set_option maxRecDepth 20000 in
theorem sw_1205 : (Jvm.Cond.lays "SplitFaresModel" "SplitFaresModel" "undoMany" "I") ∈ sf_TB := sf_in6 5 rfl rfl
set_option maxRecDepth 20000 in
theorem sw_1207 : (Jvm.Cond.laysFinal "SplitFaresModel" "SplitFaresModel" "fares" "[I") ∈ sf_TB := sf_in6 7 rfl rfl
set_option maxRecDepth 20000 in
theorem sw_1209 : (Jvm.Cond.laysFinal "SplitFaresModel" "SplitFaresModel" "shares" "[J") ∈ sf_TB := sf_in6 9 rfl rfl
set_option maxRecDepth 20000 in
theorem sw_1211 : (Jvm.Cond.lays "SplitFaresModel" "SplitFaresModel" "stopped0" "I") ∈ sf_TB := sf_in6 11 rfl rfl
set_option maxRecDepth 20000 in
theorem sw_1213 : (Jvm.Cond.lays "SplitFaresModel" "SplitFaresModel" "orderAt" "I") ∈ sf_TB := sf_in6 13 rfl rfl
set_option maxRecDepth 20000 in
theorem sw_1215 : (Jvm.Cond.lays "SplitFaresModel" "SplitFaresModel" "howOften" "I") ∈ sf_TB := sf_in6 15 rfl rfl
set_option maxRecDepth 20000 in
theorem sw_1217 : (Jvm.Cond.lays "SplitFaresModel" "SplitFaresModel" "head" "I") ∈ sf_TB := sf_in6 17 rfl rfl
set_option maxRecDepth 20000 in
theorem sw_1219 : (Jvm.Cond.lays "SplitFaresModel" "SplitFaresModel" "sumsAre" "Z") ∈ sf_TB := sf_in6 19 rfl rfl
set_option maxRecDepth 20000 in
theorem sw_1221 : (Jvm.Cond.lays "SplitFaresModel" "SplitFaresModel" "testIs" "Z") ∈ sf_TB := sf_in6 21 rfl rfl
set_option maxRecDepth 20000 in
theorem sw_1223 : (Jvm.Cond.laysFinal "SplitFaresModel" "SplitFaresModel" "sums" "[J") ∈ sf_TB := sf_in6 23 rfl rfl
set_option maxRecDepth 20000 in
theorem sw_1225 : (Jvm.Cond.laysFinal "SplitFaresModel" "SplitFaresModel" "drawnTold" "[I") ∈ sf_TB := sf_in6 25 rfl rfl
set_option maxRecDepth 20000 in
theorem sw_1227 : (Jvm.Cond.lays "SplitFaresModel" "SplitFaresModel" "hasDrawn" "Z") ∈ sf_TB := sf_in6 27 rfl rfl
set_option maxRecDepth 20000 in
theorem sw_1229 : (Jvm.Cond.lays "SplitFaresModel" "SplitFaresModel" "latest" "I") ∈ sf_TB := sf_in6 29 rfl rfl
set_option maxRecDepth 20000 in
theorem sw_1232 : (Jvm.Cond.arrayClass Jvm.ClassFile.FieldType.boolean) ∈ sf_TB := sf_in6 32 rfl rfl
set_option maxRecDepth 20000 in
theorem sw_1233 : (Jvm.Cond.methodLink "SplitFaresLaw" (175 : Nat) ({ cls := "SplitFaresModel", name := "image", desc := "(I)I" } : Jvm.MethodName)) ∈ sf_TB := sf_in6 33 rfl rfl
set_option maxRecDepth 20000 in
theorem sw_1234 : (Jvm.Cond.instanceMethod ({ cls := "SplitFaresModel", name := "image", desc := "(I)I" } : Jvm.MethodName)) ∈ sf_TB := sf_in6 34 rfl rfl
set_option maxRecDepth 20000 in
theorem sw_1235 : (Jvm.Cond.selects "SplitFaresModel" ({ cls := "SplitFaresModel", name := "image", desc := "(I)I" } : Jvm.MethodName) ({ cls := "SplitFaresModel", name := "image", desc := "(I)I" } : Jvm.MethodName)) ∈ sf_TB := sf_in6 35 rfl rfl
set_option maxRecDepth 20000 in
theorem sw_1236 : (Jvm.Cond.code ({ cls := "SplitFaresModel", name := "image", desc := "(I)I" } : Jvm.MethodName) prog_13_method_15_code (3 : Nat) (Option.some Jvm.ClassFile.FieldType.int)) ∈ sf_TB := sf_in6 36 rfl rfl
set_option maxRecDepth 20000 in
theorem sw_1237 : (Jvm.Cond.methodLink "SplitFaresModel" (18 : Nat) ({ cls := "SplitFaresModel", name := "lies", desc := "(III)Z" } : Jvm.MethodName)) ∈ sf_TB := sf_in6 37 rfl rfl
set_option maxRecDepth 20000 in
theorem sw_1238 : (Jvm.Cond.static ({ cls := "SplitFaresModel", name := "lies", desc := "(III)Z" } : Jvm.MethodName)) ∈ sf_TB := sf_in6 38 rfl rfl
set_option maxRecDepth 20000 in
theorem sw_1239 : (Jvm.Cond.code ({ cls := "SplitFaresModel", name := "lies", desc := "(III)Z" } : Jvm.MethodName) prog_13_method_1_code (3 : Nat) (Option.some Jvm.ClassFile.FieldType.boolean)) ∈ sf_TB := sf_in6 39 rfl rfl
set_option maxRecDepth 20000 in
theorem sw_1240 : (Jvm.Cond.methodLink "SplitFaresModel" (116 : Nat) ({ cls := "SplitFaresModel", name := "refuses", desc := "(I)I" } : Jvm.MethodName)) ∈ sf_TB := sf_in6 40 rfl rfl
set_option maxRecDepth 20000 in
theorem sw_1242 : (Jvm.Cond.instanceMethod ({ cls := "SplitFaresModel", name := "refuses", desc := "(I)I" } : Jvm.MethodName)) ∈ sf_TB := sf_in6 42 rfl rfl
set_option maxRecDepth 20000 in
theorem sw_1243 : (Jvm.Cond.code ({ cls := "SplitFaresModel", name := "refuses", desc := "(I)I" } : Jvm.MethodName) prog_13_method_4_code (2 : Nat) (Option.some Jvm.ClassFile.FieldType.int)) ∈ sf_TB := sf_in6 43 rfl rfl
set_option maxRecDepth 20000 in
theorem sw_1244 : (Jvm.Cond.methodLink "SplitFaresModel" (14 : Nat) ({ cls := "SplitFaresModel", name := "good", desc := "(I)I" } : Jvm.MethodName)) ∈ sf_TB := sf_in6 44 rfl rfl
set_option maxRecDepth 20000 in
theorem sw_1246 : (Jvm.Cond.instanceMethod ({ cls := "SplitFaresModel", name := "good", desc := "(I)I" } : Jvm.MethodName)) ∈ sf_TB := sf_in6 46 rfl rfl
set_option maxRecDepth 20000 in
theorem sw_1247 : (Jvm.Cond.code ({ cls := "SplitFaresModel", name := "good", desc := "(I)I" } : Jvm.MethodName) prog_13_method_5_code (2 : Nat) (Option.some Jvm.ClassFile.FieldType.int)) ∈ sf_TB := sf_in6 47 rfl rfl
set_option maxRecDepth 20000 in
theorem sw_1248 : (Jvm.Cond.methodLink "SplitFaresLaw" (179 : Nat) ({ cls := "SplitFaresModel", name := "back", desc := "(I)I" } : Jvm.MethodName)) ∈ sf_TB := sf_in6 48 rfl rfl
set_option maxRecDepth 20000 in
theorem sw_1249 : (Jvm.Cond.instanceMethod ({ cls := "SplitFaresModel", name := "back", desc := "(I)I" } : Jvm.MethodName)) ∈ sf_TB := sf_in6 49 rfl rfl
set_option maxRecDepth 20000 in
theorem sw_1250 : (Jvm.Cond.selects "SplitFaresModel" ({ cls := "SplitFaresModel", name := "back", desc := "(I)I" } : Jvm.MethodName) ({ cls := "SplitFaresModel", name := "back", desc := "(I)I" } : Jvm.MethodName)) ∈ sf_TB := sf_in6 50 rfl rfl
set_option maxRecDepth 20000 in
theorem sw_1251 : (Jvm.Cond.code ({ cls := "SplitFaresModel", name := "back", desc := "(I)I" } : Jvm.MethodName) prog_13_method_16_code (3 : Nat) (Option.some Jvm.ClassFile.FieldType.int)) ∈ sf_TB := sf_in6 51 rfl rfl
set_option maxRecDepth 20000 in
theorem sw_1252 : (Jvm.Cond.methodLink "SplitFaresModel" (119 : Nat) ({ cls := "SplitFaresModel", name := "settled", desc := "(I)I" } : Jvm.MethodName)) ∈ sf_TB := sf_in6 52 rfl rfl
set_option maxRecDepth 20000 in
theorem sw_1254 : (Jvm.Cond.instanceMethod ({ cls := "SplitFaresModel", name := "settled", desc := "(I)I" } : Jvm.MethodName)) ∈ sf_TB := sf_in6 54 rfl rfl
set_option maxRecDepth 20000 in
theorem sw_1255 : (Jvm.Cond.code ({ cls := "SplitFaresModel", name := "settled", desc := "(I)I" } : Jvm.MethodName) prog_13_method_6_code (2 : Nat) (Option.some Jvm.ClassFile.FieldType.int)) ∈ sf_TB := sf_in6 55 rfl rfl
set_option maxRecDepth 20000 in
theorem sw_1256 : (Jvm.Cond.methodLink "SplitFaresLaw" (17 : Nat) ({ cls := "SplitFaresModel", name := "train", desc := "(III)I" } : Jvm.MethodName)) ∈ sf_TB := sf_in6 56 rfl rfl
set_option maxRecDepth 20000 in
theorem sw_1257 : (Jvm.Cond.instanceMethod ({ cls := "SplitFaresModel", name := "train", desc := "(III)I" } : Jvm.MethodName)) ∈ sf_TB := sf_in6 57 rfl rfl
set_option maxRecDepth 20000 in
theorem sw_1258 : (Jvm.Cond.selects "SplitFaresModel" ({ cls := "SplitFaresModel", name := "train", desc := "(III)I" } : Jvm.MethodName) ({ cls := "SplitFaresModel", name := "train", desc := "(III)I" } : Jvm.MethodName)) ∈ sf_TB := sf_in6 58 rfl rfl
set_option maxRecDepth 20000 in
theorem sw_1259 : (Jvm.Cond.code ({ cls := "SplitFaresModel", name := "train", desc := "(III)I" } : Jvm.MethodName) prog_13_method_20_code (4 : Nat) (Option.some Jvm.ClassFile.FieldType.int)) ∈ sf_TB := sf_in6 59 rfl rfl
set_option maxRecDepth 20000 in
theorem sw_1260 : (Jvm.Cond.methodLink "SplitFaresModel" (125 : Nat) ({ cls := "SplitFaresModel", name := "canTrain", desc := "(III)Z" } : Jvm.MethodName)) ∈ sf_TB := sf_in6 60 rfl rfl
set_option maxRecDepth 20000 in
theorem sw_1261 : (Jvm.Cond.static ({ cls := "SplitFaresModel", name := "canTrain", desc := "(III)Z" } : Jvm.MethodName)) ∈ sf_TB := sf_in6 61 rfl rfl
set_option maxRecDepth 20000 in
theorem sw_1262 : (Jvm.Cond.code ({ cls := "SplitFaresModel", name := "canTrain", desc := "(III)Z" } : Jvm.MethodName) prog_13_method_18_code (3 : Nat) (Option.some Jvm.ClassFile.FieldType.boolean)) ∈ sf_TB := sf_in6 62 rfl rfl
set_option maxRecDepth 20000 in
theorem sw_1263 : (Jvm.Cond.methodLink "SplitFaresModel" (122 : Nat) ({ cls := "SplitFaresModel", name := "ones", desc := "(I)I" } : Jvm.MethodName)) ∈ sf_TB := sf_in6 63 rfl rfl
set_option maxRecDepth 20000 in
theorem sw_1264 : (Jvm.Cond.static ({ cls := "SplitFaresModel", name := "ones", desc := "(I)I" } : Jvm.MethodName)) ∈ sf_TB := sf_in6 64 rfl rfl
set_option maxRecDepth 20000 in
theorem sw_1265 : (Jvm.Cond.code ({ cls := "SplitFaresModel", name := "ones", desc := "(I)I" } : Jvm.MethodName) prog_13_method_8_code (3 : Nat) (Option.some Jvm.ClassFile.FieldType.int)) ∈ sf_TB := sf_in6 65 rfl rfl
set_option maxRecDepth 20000 in
theorem sw_1266 : (Jvm.Cond.methodLink "SplitFaresModel" (128 : Nat) ({ cls := "SplitFaresModel", name := "adds", desc := "(III)V" } : Jvm.MethodName)) ∈ sf_TB := sf_in6 66 rfl rfl
set_option maxRecDepth 20000 in
theorem sw_1268 : (Jvm.Cond.instanceMethod ({ cls := "SplitFaresModel", name := "adds", desc := "(III)V" } : Jvm.MethodName)) ∈ sf_TB := sf_in6 68 rfl rfl
set_option maxRecDepth 20000 in
theorem sw_1269 : (Jvm.Cond.code ({ cls := "SplitFaresModel", name := "adds", desc := "(III)V" } : Jvm.MethodName) prog_13_method_19_code (5 : Nat) (Option.none : Option Jvm.ClassFile.FieldType)) ∈ sf_TB := sf_in6 69 rfl rfl
set_option maxRecDepth 20000 in
theorem sw_1270 : (Jvm.Cond.methodLink "SplitFaresLaw" (22 : Nat) ({ cls := "SplitFaresModel", name := "of", desc := "(II)I" } : Jvm.MethodName)) ∈ sf_TB := sf_in6 70 rfl rfl
set_option maxRecDepth 20000 in
theorem sw_1271 : (Jvm.Cond.instanceMethod ({ cls := "SplitFaresModel", name := "of", desc := "(II)I" } : Jvm.MethodName)) ∈ sf_TB := sf_in6 71 rfl rfl
set_option maxRecDepth 20000 in
theorem sw_1272 : (Jvm.Cond.selects "SplitFaresModel" ({ cls := "SplitFaresModel", name := "of", desc := "(II)I" } : Jvm.MethodName) ({ cls := "SplitFaresModel", name := "of", desc := "(II)I" } : Jvm.MethodName)) ∈ sf_TB := sf_in6 72 rfl rfl
set_option maxRecDepth 20000 in
theorem sw_1273 : (Jvm.Cond.code ({ cls := "SplitFaresModel", name := "of", desc := "(II)I" } : Jvm.MethodName) prog_13_method_21_code (3 : Nat) (Option.some Jvm.ClassFile.FieldType.int)) ∈ sf_TB := sf_in6 73 rfl rfl
set_option maxRecDepth 20000 in
theorem sw_1274 : (Jvm.Cond.methodLink "SplitFaresModel" (132 : Nat) ({ cls := "SplitFaresModel", name := "isTrain", desc := "(I)Z" } : Jvm.MethodName)) ∈ sf_TB := sf_in6 74 rfl rfl
set_option maxRecDepth 20000 in
theorem sw_1276 : (Jvm.Cond.instanceMethod ({ cls := "SplitFaresModel", name := "isTrain", desc := "(I)Z" } : Jvm.MethodName)) ∈ sf_TB := sf_in6 76 rfl rfl
set_option maxRecDepth 20000 in
theorem sw_1277 : (Jvm.Cond.code ({ cls := "SplitFaresModel", name := "isTrain", desc := "(I)Z" } : Jvm.MethodName) prog_13_method_17_code (2 : Nat) (Option.some Jvm.ClassFile.FieldType.boolean)) ∈ sf_TB := sf_in6 77 rfl rfl
set_option maxRecDepth 20000 in
theorem sw_1278 : (Jvm.Cond.methodLink "SplitFaresLaw" (35 : Nat) ({ cls := "SplitFaresModel", name := "held", desc := "(III)I" } : Jvm.MethodName)) ∈ sf_TB := sf_in6 78 rfl rfl
set_option maxRecDepth 20000 in
theorem sw_1279 : (Jvm.Cond.instanceMethod ({ cls := "SplitFaresModel", name := "held", desc := "(III)I" } : Jvm.MethodName)) ∈ sf_TB := sf_in6 79 rfl rfl
set_option maxRecDepth 20000 in
theorem sw_1280 : (Jvm.Cond.selects "SplitFaresModel" ({ cls := "SplitFaresModel", name := "held", desc := "(III)I" } : Jvm.MethodName) ({ cls := "SplitFaresModel", name := "held", desc := "(III)I" } : Jvm.MethodName)) ∈ sf_TB := sf_in6 80 rfl rfl
set_option maxRecDepth 20000 in
theorem sw_1281 : (Jvm.Cond.code ({ cls := "SplitFaresModel", name := "held", desc := "(III)I" } : Jvm.MethodName) prog_13_method_23_code (4 : Nat) (Option.some Jvm.ClassFile.FieldType.int)) ∈ sf_TB := sf_in6 81 rfl rfl
set_option maxRecDepth 20000 in
theorem sw_1282 : (Jvm.Cond.methodLink "SplitFaresModel" (139 : Nat) ({ cls := "SplitFaresModel", name := "areTwo", desc := "(II)Z" } : Jvm.MethodName)) ∈ sf_TB := sf_in6 82 rfl rfl
set_option maxRecDepth 20000 in
theorem sw_1283 : (Jvm.Cond.static ({ cls := "SplitFaresModel", name := "areTwo", desc := "(II)Z" } : Jvm.MethodName)) ∈ sf_TB := sf_in6 83 rfl rfl
set_option maxRecDepth 20000 in
theorem sw_1284 : (Jvm.Cond.code ({ cls := "SplitFaresModel", name := "areTwo", desc := "(II)Z" } : Jvm.MethodName) prog_13_method_10_code (2 : Nat) (Option.some Jvm.ClassFile.FieldType.boolean)) ∈ sf_TB := sf_in6 84 rfl rfl
set_option maxRecDepth 20000 in
theorem sw_1285 : (Jvm.Cond.methodLink "SplitFaresModel" (22 : Nat) ({ cls := "SplitFaresModel", name := "isStation", desc := "(I)Z" } : Jvm.MethodName)) ∈ sf_TB := sf_in6 85 rfl rfl
set_option maxRecDepth 20000 in
theorem sw_1286 : (Jvm.Cond.static ({ cls := "SplitFaresModel", name := "isStation", desc := "(I)Z" } : Jvm.MethodName)) ∈ sf_TB := sf_in6 86 rfl rfl
set_option maxRecDepth 20000 in
theorem sw_1287 : (Jvm.Cond.code ({ cls := "SplitFaresModel", name := "isStation", desc := "(I)Z" } : Jvm.MethodName) prog_13_method_9_code (1 : Nat) (Option.some Jvm.ClassFile.FieldType.boolean)) ∈ sf_TB := sf_in6 87 rfl rfl
set_option maxRecDepth 20000 in
theorem sw_1288 : (Jvm.Cond.methodLink "SplitFaresModel" (143 : Nat) ({ cls := "SplitFaresModel", name := "ticketAt", desc := "(III)I" } : Jvm.MethodName)) ∈ sf_TB := sf_in6 88 rfl rfl
set_option maxRecDepth 20000 in
theorem sw_1289 : (Jvm.Cond.static ({ cls := "SplitFaresModel", name := "ticketAt", desc := "(III)I" } : Jvm.MethodName)) ∈ sf_TB := sf_in6 89 rfl rfl
set_option maxRecDepth 20000 in
theorem sw_1290 : (Jvm.Cond.code ({ cls := "SplitFaresModel", name := "ticketAt", desc := "(III)I" } : Jvm.MethodName) prog_13_method_22_code (3 : Nat) (Option.some Jvm.ClassFile.FieldType.int)) ∈ sf_TB := sf_in6 90 rfl rfl
set_option maxRecDepth 20000 in
theorem sw_1291 : (Jvm.Cond.methodLink "SplitFaresModel" (135 : Nat) ({ cls := "SplitFaresModel", name := "pairAt", desc := "(II)I" } : Jvm.MethodName)) ∈ sf_TB := sf_in6 91 rfl rfl
set_option maxRecDepth 20000 in
theorem sw_1292 : (Jvm.Cond.static ({ cls := "SplitFaresModel", name := "pairAt", desc := "(II)I" } : Jvm.MethodName)) ∈ sf_TB := sf_in6 92 rfl rfl
set_option maxRecDepth 20000 in
theorem sw_1293 : (Jvm.Cond.code ({ cls := "SplitFaresModel", name := "pairAt", desc := "(II)I" } : Jvm.MethodName) prog_13_method_11_code (2 : Nat) (Option.some Jvm.ClassFile.FieldType.int)) ∈ sf_TB := sf_in6 93 rfl rfl
set_option maxRecDepth 20000 in
theorem sw_1294 : (Jvm.Cond.methodLink "SplitFaresLaw" (39 : Nat) ({ cls := "SplitFaresModel", name := "terms", desc := "(II)I" } : Jvm.MethodName)) ∈ sf_TB := sf_in6 94 rfl rfl
set_option maxRecDepth 20000 in
theorem sw_1295 : (Jvm.Cond.instanceMethod ({ cls := "SplitFaresModel", name := "terms", desc := "(II)I" } : Jvm.MethodName)) ∈ sf_TB := sf_in6 95 rfl rfl
set_option maxRecDepth 20000 in
theorem sw_1296 : (Jvm.Cond.selects "SplitFaresModel" ({ cls := "SplitFaresModel", name := "terms", desc := "(II)I" } : Jvm.MethodName) ({ cls := "SplitFaresModel", name := "terms", desc := "(II)I" } : Jvm.MethodName)) ∈ sf_TB := sf_in6 96 rfl rfl
set_option maxRecDepth 20000 in
theorem sw_1297 : (Jvm.Cond.code ({ cls := "SplitFaresModel", name := "terms", desc := "(II)I" } : Jvm.MethodName) prog_13_method_28_code (4 : Nat) (Option.some Jvm.ClassFile.FieldType.int)) ∈ sf_TB := sf_in6 97 rfl rfl
set_option maxRecDepth 20000 in
theorem sw_1298 : (Jvm.Cond.methodLink "SplitFaresModel" (150 : Nat) ({ cls := "SplitFaresModel", name := "isTerm", desc := "(II)Z" } : Jvm.MethodName)) ∈ sf_TB := sf_in6 98 rfl rfl
set_option maxRecDepth 20000 in
theorem sw_1299 : (Jvm.Cond.static ({ cls := "SplitFaresModel", name := "isTerm", desc := "(II)Z" } : Jvm.MethodName)) ∈ sf_TB := sf_in6 99 rfl rfl
set_option maxRecDepth 20000 in
theorem sw_1300 : (Jvm.Cond.code ({ cls := "SplitFaresModel", name := "isTerm", desc := "(II)Z" } : Jvm.MethodName) prog_13_method_26_code (2 : Nat) (Option.some Jvm.ClassFile.FieldType.boolean)) ∈ sf_TB := sf_in6 100 rfl rfl
set_option maxRecDepth 20000 in
theorem sw_1301 : (Jvm.Cond.methodLink "SplitFaresModel" (153 : Nat) ({ cls := "SplitFaresModel", name := "termAt", desc := "(I)I" } : Jvm.MethodName)) ∈ sf_TB := sf_in6 101 rfl rfl
set_option maxRecDepth 20000 in
theorem sw_1302 : (Jvm.Cond.static ({ cls := "SplitFaresModel", name := "termAt", desc := "(I)I" } : Jvm.MethodName)) ∈ sf_TB := sf_in6 102 rfl rfl
set_option maxRecDepth 20000 in
theorem sw_1303 : (Jvm.Cond.code ({ cls := "SplitFaresModel", name := "termAt", desc := "(I)I" } : Jvm.MethodName) prog_13_method_27_code (1 : Nat) (Option.some Jvm.ClassFile.FieldType.int)) ∈ sf_TB := sf_in6 103 rfl rfl
set_option maxRecDepth 20000 in
theorem sw_1304 : (Jvm.Cond.methodLink "SplitFaresLaw" (54 : Nat) ({ cls := "SplitFaresModel", name := "row", desc := "()I" } : Jvm.MethodName)) ∈ sf_TB := sf_in6 104 rfl rfl
set_option maxRecDepth 20000 in
theorem sw_1305 : (Jvm.Cond.instanceMethod ({ cls := "SplitFaresModel", name := "row", desc := "()I" } : Jvm.MethodName)) ∈ sf_TB := sf_in6 105 rfl rfl
set_option maxRecDepth 20000 in
theorem sw_1306 : (Jvm.Cond.selects "SplitFaresModel" ({ cls := "SplitFaresModel", name := "row", desc := "()I" } : Jvm.MethodName) ({ cls := "SplitFaresModel", name := "row", desc := "()I" } : Jvm.MethodName)) ∈ sf_TB := sf_in6 106 rfl rfl
set_option maxRecDepth 20000 in
theorem sw_1307 : (Jvm.Cond.code ({ cls := "SplitFaresModel", name := "row", desc := "()I" } : Jvm.MethodName) prog_13_method_29_code (6 : Nat) (Option.some Jvm.ClassFile.FieldType.int)) ∈ sf_TB := sf_in6 107 rfl rfl
set_option maxRecDepth 20000 in
theorem sw_1308 : (Jvm.Cond.methodLink "SplitFaresLaw" (58 : Nat) ({ cls := "SplitFaresModel", name := "delays", desc := "()I" } : Jvm.MethodName)) ∈ sf_TB := sf_in6 108 rfl rfl
set_option maxRecDepth 20000 in
theorem sw_1309 : (Jvm.Cond.instanceMethod ({ cls := "SplitFaresModel", name := "delays", desc := "()I" } : Jvm.MethodName)) ∈ sf_TB := sf_in6 109 rfl rfl
set_option maxRecDepth 20000 in
theorem sw_1310 : (Jvm.Cond.selects "SplitFaresModel" ({ cls := "SplitFaresModel", name := "delays", desc := "()I" } : Jvm.MethodName) ({ cls := "SplitFaresModel", name := "delays", desc := "()I" } : Jvm.MethodName)) ∈ sf_TB := sf_in6 110 rfl rfl
set_option maxRecDepth 20000 in
theorem sw_1311 : (Jvm.Cond.code ({ cls := "SplitFaresModel", name := "delays", desc := "()I" } : Jvm.MethodName) prog_13_method_30_code (1 : Nat) (Option.some Jvm.ClassFile.FieldType.int)) ∈ sf_TB := sf_in6 111 rfl rfl
set_option maxRecDepth 20000 in
theorem sw_1312 : (Jvm.Cond.methodLink "SplitFaresLaw" (44 : Nat) ({ cls := "SplitFaresModel", name := "feed", desc := "(IIIII)I" } : Jvm.MethodName)) ∈ sf_TB := sf_in6 112 rfl rfl
set_option maxRecDepth 20000 in
theorem sw_1313 : (Jvm.Cond.instanceMethod ({ cls := "SplitFaresModel", name := "feed", desc := "(IIIII)I" } : Jvm.MethodName)) ∈ sf_TB := sf_in6 113 rfl rfl
set_option maxRecDepth 20000 in
theorem sw_1314 : (Jvm.Cond.selects "SplitFaresModel" ({ cls := "SplitFaresModel", name := "feed", desc := "(IIIII)I" } : Jvm.MethodName) ({ cls := "SplitFaresModel", name := "feed", desc := "(IIIII)I" } : Jvm.MethodName)) ∈ sf_TB := sf_in6 114 rfl rfl
set_option maxRecDepth 20000 in
theorem sw_1315 : (Jvm.Cond.code ({ cls := "SplitFaresModel", name := "feed", desc := "(IIIII)I" } : Jvm.MethodName) prog_13_method_31_code (7 : Nat) (Option.some Jvm.ClassFile.FieldType.int)) ∈ sf_TB := sf_in6 115 rfl rfl
set_option maxRecDepth 20000 in
theorem sw_1316 : (Jvm.Cond.methodLink "SplitFaresLaw" (49 : Nat) ({ cls := "SplitFaresModel", name := "end", desc := "(I)I" } : Jvm.MethodName)) ∈ sf_TB := sf_in6 116 rfl rfl
set_option maxRecDepth 20000 in
theorem sw_1317 : (Jvm.Cond.instanceMethod ({ cls := "SplitFaresModel", name := "end", desc := "(I)I" } : Jvm.MethodName)) ∈ sf_TB := sf_in6 117 rfl rfl
set_option maxRecDepth 20000 in
theorem sw_1318 : (Jvm.Cond.selects "SplitFaresModel" ({ cls := "SplitFaresModel", name := "end", desc := "(I)I" } : Jvm.MethodName) ({ cls := "SplitFaresModel", name := "end", desc := "(I)I" } : Jvm.MethodName)) ∈ sf_TB := sf_in6 118 rfl rfl
set_option maxRecDepth 20000 in
theorem sw_1319 : (Jvm.Cond.code ({ cls := "SplitFaresModel", name := "end", desc := "(I)I" } : Jvm.MethodName) prog_13_method_32_code (2 : Nat) (Option.some Jvm.ClassFile.FieldType.int)) ∈ sf_TB := sf_in6 119 rfl rfl
set_option maxRecDepth 20000 in
theorem sw_1320 : (Jvm.Cond.methodLink "SplitFaresLaw" (62 : Nat) ({ cls := "SplitFaresModel", name := "law", desc := "()I" } : Jvm.MethodName)) ∈ sf_TB := sf_in6 120 rfl rfl
set_option maxRecDepth 20000 in
theorem sw_1321 : (Jvm.Cond.instanceMethod ({ cls := "SplitFaresModel", name := "law", desc := "()I" } : Jvm.MethodName)) ∈ sf_TB := sf_in6 121 rfl rfl
set_option maxRecDepth 20000 in
theorem sw_1322 : (Jvm.Cond.selects "SplitFaresModel" ({ cls := "SplitFaresModel", name := "law", desc := "()I" } : Jvm.MethodName) ({ cls := "SplitFaresModel", name := "law", desc := "()I" } : Jvm.MethodName)) ∈ sf_TB := sf_in6 122 rfl rfl
set_option maxRecDepth 20000 in
theorem sw_1323 : (Jvm.Cond.code ({ cls := "SplitFaresModel", name := "law", desc := "()I" } : Jvm.MethodName) prog_13_method_56_code (1 : Nat) (Option.some Jvm.ClassFile.FieldType.int)) ∈ sf_TB := sf_in6 123 rfl rfl
set_option maxRecDepth 20000 in
theorem sw_1324 : (Jvm.Cond.methodLink "SplitFaresModel" (252 : Nat) ({ cls := "SplitFaresModel", name := "readsAs", desc := "(Z)Z" } : Jvm.MethodName)) ∈ sf_TB := sf_in6 124 rfl rfl
set_option maxRecDepth 20000 in
theorem sw_1326 : (Jvm.Cond.instanceMethod ({ cls := "SplitFaresModel", name := "readsAs", desc := "(Z)Z" } : Jvm.MethodName)) ∈ sf_TB := sf_in6 126 rfl rfl
set_option maxRecDepth 20000 in
theorem sw_1327 : (Jvm.Cond.code ({ cls := "SplitFaresModel", name := "readsAs", desc := "(Z)Z" } : Jvm.MethodName) prog_13_method_54_code (2 : Nat) (Option.some Jvm.ClassFile.FieldType.boolean)) ∈ sf_TB := sf_in6 127 rfl rfl
set_option maxRecDepth 20000 in
theorem sw_1328 : (Jvm.Cond.methodLink "SplitFaresModel" (249 : Nat) ({ cls := "SplitFaresModel", name := "reads", desc := "()Z" } : Jvm.MethodName)) ∈ sf_TB := sf_in6 128 rfl rfl
set_option maxRecDepth 20000 in
theorem sw_1330 : (Jvm.Cond.instanceMethod ({ cls := "SplitFaresModel", name := "reads", desc := "()Z" } : Jvm.MethodName)) ∈ sf_TB := sf_in6 130 rfl rfl
set_option maxRecDepth 20000 in
theorem sw_1331 : (Jvm.Cond.code ({ cls := "SplitFaresModel", name := "reads", desc := "()Z" } : Jvm.MethodName) prog_13_method_53_code (2 : Nat) (Option.some Jvm.ClassFile.FieldType.boolean)) ∈ sf_TB := sf_in6 131 rfl rfl
set_option maxRecDepth 20000 in
theorem sw_1332 : (Jvm.Cond.methodLink "SplitFaresModel" (243 : Nat) ({ cls := "SplitFaresModel", name := "splits", desc := "(I)V" } : Jvm.MethodName)) ∈ sf_TB := sf_in6 132 rfl rfl
set_option maxRecDepth 20000 in
theorem sw_1334 : (Jvm.Cond.instanceMethod ({ cls := "SplitFaresModel", name := "splits", desc := "(I)V" } : Jvm.MethodName)) ∈ sf_TB := sf_in6 134 rfl rfl
set_option maxRecDepth 20000 in
theorem sw_1335 : (Jvm.Cond.code ({ cls := "SplitFaresModel", name := "splits", desc := "(I)V" } : Jvm.MethodName) prog_13_method_36_code (6 : Nat) (Option.none : Option Jvm.ClassFile.FieldType)) ∈ sf_TB := sf_in6 135 rfl rfl
set_option maxRecDepth 20000 in
theorem sw_1336 : (Jvm.Cond.methodLink "SplitFaresModel" (165 : Nat) ({ cls := "SplitFaresModel", name := "isSmall", desc := "(I)Z" } : Jvm.MethodName)) ∈ sf_TB := sf_in6 136 rfl rfl
set_option maxRecDepth 20000 in
theorem sw_1337 : (Jvm.Cond.static ({ cls := "SplitFaresModel", name := "isSmall", desc := "(I)Z" } : Jvm.MethodName)) ∈ sf_TB := sf_in6 137 rfl rfl
set_option maxRecDepth 20000 in
theorem sw_1338 : (Jvm.Cond.code ({ cls := "SplitFaresModel", name := "isSmall", desc := "(I)Z" } : Jvm.MethodName) prog_13_method_33_code (1 : Nat) (Option.some Jvm.ClassFile.FieldType.boolean)) ∈ sf_TB := sf_in6 138 rfl rfl
set_option maxRecDepth 20000 in
theorem sw_1339 : (Jvm.Cond.methodLink "SplitFaresModel" (168 : Nat) ({ cls := "SplitFaresModel", name := "isDigit", desc := "(I)Z" } : Jvm.MethodName)) ∈ sf_TB := sf_in6 139 rfl rfl
set_option maxRecDepth 20000 in
theorem sw_1340 : (Jvm.Cond.static ({ cls := "SplitFaresModel", name := "isDigit", desc := "(I)Z" } : Jvm.MethodName)) ∈ sf_TB := sf_in6 140 rfl rfl
set_option maxRecDepth 20000 in
theorem sw_1341 : (Jvm.Cond.code ({ cls := "SplitFaresModel", name := "isDigit", desc := "(I)Z" } : Jvm.MethodName) prog_13_method_34_code (1 : Nat) (Option.some Jvm.ClassFile.FieldType.boolean)) ∈ sf_TB := sf_in6 141 rfl rfl
set_option maxRecDepth 20000 in
theorem sw_1342 : (Jvm.Cond.methodLink "SplitFaresModel" (171 : Nat) ({ cls := "SplitFaresModel", name := "wordOf", desc := "(II)I" } : Jvm.MethodName)) ∈ sf_TB := sf_in6 142 rfl rfl
set_option maxRecDepth 20000 in
theorem sw_1344 : (Jvm.Cond.instanceMethod ({ cls := "SplitFaresModel", name := "wordOf", desc := "(II)I" } : Jvm.MethodName)) ∈ sf_TB := sf_in6 144 rfl rfl
set_option maxRecDepth 20000 in
theorem sw_1345 : (Jvm.Cond.code ({ cls := "SplitFaresModel", name := "wordOf", desc := "(II)I" } : Jvm.MethodName) prog_13_method_35_code (8 : Nat) (Option.some Jvm.ClassFile.FieldType.int)) ∈ sf_TB := sf_in6 145 rfl rfl
set_option maxRecDepth 20000 in
theorem sw_1346 : (Jvm.Cond.constant "SplitFaresModel" (174 : Nat) (1000000 : Int32)) ∈ sf_TB := sf_in6 146 rfl rfl
set_option maxRecDepth 20000 in
theorem sw_1347 : (Jvm.Cond.methodLink "SplitFaresModel" (246 : Nat) ({ cls := "SplitFaresModel", name := "readOne", desc := "()V" } : Jvm.MethodName)) ∈ sf_TB := sf_in6 147 rfl rfl
set_option maxRecDepth 20000 in
theorem sw_1349 : (Jvm.Cond.instanceMethod ({ cls := "SplitFaresModel", name := "readOne", desc := "()V" } : Jvm.MethodName)) ∈ sf_TB := sf_in6 149 rfl rfl
set_option maxRecDepth 20000 in
theorem sw_1350 : (Jvm.Cond.code ({ cls := "SplitFaresModel", name := "readOne", desc := "()V" } : Jvm.MethodName) prog_13_method_46_code (1 : Nat) (Option.none : Option Jvm.ClassFile.FieldType)) ∈ sf_TB := sf_in6 150 rfl rfl
set_option maxRecDepth 20000 in
theorem sw_1351 : (Jvm.Cond.methodLink "SplitFaresModel" (212 : Nat) ({ cls := "SplitFaresModel", name := "readOrder", desc := "()V" } : Jvm.MethodName)) ∈ sf_TB := sf_in6 151 rfl rfl
set_option maxRecDepth 20000 in
theorem sw_1353 : (Jvm.Cond.instanceMethod ({ cls := "SplitFaresModel", name := "readOrder", desc := "()V" } : Jvm.MethodName)) ∈ sf_TB := sf_in6 153 rfl rfl
set_option maxRecDepth 20000 in
theorem sw_1354 : (Jvm.Cond.code ({ cls := "SplitFaresModel", name := "readOrder", desc := "()V" } : Jvm.MethodName) prog_13_method_45_code (1 : Nat) (Option.none : Option Jvm.ClassFile.FieldType)) ∈ sf_TB := sf_in6 154 rfl rfl
set_option maxRecDepth 20000 in
theorem sw_1355 : (Jvm.Cond.methodLink "SplitFaresModel" (185 : Nat) ({ cls := "SplitFaresModel", name := "takes0", desc := "(I)Z" } : Jvm.MethodName)) ∈ sf_TB := sf_in6 155 rfl rfl
set_option maxRecDepth 20000 in
theorem sw_1357 : (Jvm.Cond.instanceMethod ({ cls := "SplitFaresModel", name := "takes0", desc := "(I)Z" } : Jvm.MethodName)) ∈ sf_TB := sf_in6 157 rfl rfl
set_option maxRecDepth 20000 in
theorem sw_1358 : (Jvm.Cond.code ({ cls := "SplitFaresModel", name := "takes0", desc := "(I)Z" } : Jvm.MethodName) prog_13_method_39_code (3 : Nat) (Option.some Jvm.ClassFile.FieldType.boolean)) ∈ sf_TB := sf_in6 158 rfl rfl
set_option maxRecDepth 20000 in
theorem sw_1359 : (Jvm.Cond.methodLink "SplitFaresModel" (178 : Nat) ({ cls := "SplitFaresModel", name := "fine", desc := "()Z" } : Jvm.MethodName)) ∈ sf_TB := sf_in6 159 rfl rfl
set_option maxRecDepth 20000 in
theorem sw_1361 : (Jvm.Cond.instanceMethod ({ cls := "SplitFaresModel", name := "fine", desc := "()Z" } : Jvm.MethodName)) ∈ sf_TB := sf_in6 161 rfl rfl
set_option maxRecDepth 20000 in
theorem sw_1362 : (Jvm.Cond.code ({ cls := "SplitFaresModel", name := "fine", desc := "()Z" } : Jvm.MethodName) prog_13_method_37_code (1 : Nat) (Option.some Jvm.ClassFile.FieldType.boolean)) ∈ sf_TB := sf_in6 162 rfl rfl
set_option maxRecDepth 20000 in
theorem sw_1363 : (Jvm.Cond.methodLink "SplitFaresModel" (194 : Nat) ({ cls := "SplitFaresModel", name := "readSum", desc := "(I)V" } : Jvm.MethodName)) ∈ sf_TB := sf_in6 163 rfl rfl
set_option maxRecDepth 20000 in
theorem sw_1365 : (Jvm.Cond.instanceMethod ({ cls := "SplitFaresModel", name := "readSum", desc := "(I)V" } : Jvm.MethodName)) ∈ sf_TB := sf_in6 165 rfl rfl
set_option maxRecDepth 20000 in
theorem sw_1366 : (Jvm.Cond.code ({ cls := "SplitFaresModel", name := "readSum", desc := "(I)V" } : Jvm.MethodName) prog_13_method_50_code (2 : Nat) (Option.none : Option Jvm.ClassFile.FieldType)) ∈ sf_TB := sf_in6 166 rfl rfl
set_option maxRecDepth 20000 in
theorem sw_1367 : (Jvm.Cond.methodLink "SplitFaresModel" (228 : Nat) ({ cls := "SplitFaresModel", name := "readTerm", desc := "(I)V" } : Jvm.MethodName)) ∈ sf_TB := sf_in6 167 rfl rfl
set_option maxRecDepth 20000 in
theorem sw_1369 : (Jvm.Cond.instanceMethod ({ cls := "SplitFaresModel", name := "readTerm", desc := "(I)V" } : Jvm.MethodName)) ∈ sf_TB := sf_in6 169 rfl rfl
set_option maxRecDepth 20000 in
theorem sw_1370 : (Jvm.Cond.code ({ cls := "SplitFaresModel", name := "readTerm", desc := "(I)V" } : Jvm.MethodName) prog_13_method_51_code (2 : Nat) (Option.none : Option Jvm.ClassFile.FieldType)) ∈ sf_TB := sf_in6 170 rfl rfl
set_option maxRecDepth 20000 in
theorem sw_1371 : (Jvm.Cond.methodLink "SplitFaresModel" (231 : Nat) ({ cls := "SplitFaresModel", name := "readPart", desc := "(I)V" } : Jvm.MethodName)) ∈ sf_TB := sf_in6 171 rfl rfl
set_option maxRecDepth 20000 in
theorem sw_1373 : (Jvm.Cond.instanceMethod ({ cls := "SplitFaresModel", name := "readPart", desc := "(I)V" } : Jvm.MethodName)) ∈ sf_TB := sf_in6 173 rfl rfl
set_option maxRecDepth 20000 in
theorem sw_1374 : (Jvm.Cond.code ({ cls := "SplitFaresModel", name := "readPart", desc := "(I)V" } : Jvm.MethodName) prog_13_method_52_code (3 : Nat) (Option.none : Option Jvm.ClassFile.FieldType)) ∈ sf_TB := sf_in6 174 rfl rfl
set_option maxRecDepth 20000 in
theorem sw_1375 : (Jvm.Cond.methodLink "SplitFaresModel" (224 : Nat) ({ cls := "SplitFaresModel", name := "sign", desc := "(C)I" } : Jvm.MethodName)) ∈ sf_TB := sf_in6 175 rfl rfl
set_option maxRecDepth 20000 in
theorem sw_1376 : (Jvm.Cond.static ({ cls := "SplitFaresModel", name := "sign", desc := "(C)I" } : Jvm.MethodName)) ∈ sf_TB := sf_in6 176 rfl rfl
set_option maxRecDepth 20000 in
theorem sw_1377 : (Jvm.Cond.code ({ cls := "SplitFaresModel", name := "sign", desc := "(C)I" } : Jvm.MethodName) prog_13_method_42_code (1 : Nat) (Option.some Jvm.ClassFile.FieldType.int)) ∈ sf_TB := sf_in6 177 rfl rfl
set_option maxRecDepth 20000 in
theorem sw_1378 : (Jvm.Cond.methodLink "SplitFaresModel" (188 : Nat) ({ cls := "SplitFaresModel", name := "faults", desc := "()V" } : Jvm.MethodName)) ∈ sf_TB := sf_in6 178 rfl rfl
set_option maxRecDepth 20000 in
theorem sw_1380 : (Jvm.Cond.instanceMethod ({ cls := "SplitFaresModel", name := "faults", desc := "()V" } : Jvm.MethodName)) ∈ sf_TB := sf_in6 180 rfl rfl
set_option maxRecDepth 20000 in
theorem sw_1381 : (Jvm.Cond.code ({ cls := "SplitFaresModel", name := "faults", desc := "()V" } : Jvm.MethodName) prog_13_method_38_code (1 : Nat) (Option.none : Option Jvm.ClassFile.FieldType)) ∈ sf_TB := sf_in6 181 rfl rfl
set_option maxRecDepth 20000 in
theorem sw_1382 : (Jvm.Cond.methodLink "SplitFaresModel" (198 : Nat) ({ cls := "SplitFaresModel", name := "must", desc := "(I)V" } : Jvm.MethodName)) ∈ sf_TB := sf_in6 182 rfl rfl
set_option maxRecDepth 20000 in
theorem sw_1384 : (Jvm.Cond.instanceMethod ({ cls := "SplitFaresModel", name := "must", desc := "(I)V" } : Jvm.MethodName)) ∈ sf_TB := sf_in6 184 rfl rfl
set_option maxRecDepth 20000 in
theorem sw_1385 : (Jvm.Cond.code ({ cls := "SplitFaresModel", name := "must", desc := "(I)V" } : Jvm.MethodName) prog_13_method_40_code (2 : Nat) (Option.none : Option Jvm.ClassFile.FieldType)) ∈ sf_TB := sf_in6 185 rfl rfl
set_option maxRecDepth 20000 in
theorem sw_1386 : (Jvm.Cond.methodLink "SplitFaresModel" (240 : Nat) ({ cls := "SplitFaresModel", name := "leaf", desc := "()V" } : Jvm.MethodName)) ∈ sf_TB := sf_in6 186 rfl rfl
set_option maxRecDepth 20000 in
theorem sw_1388 : (Jvm.Cond.instanceMethod ({ cls := "SplitFaresModel", name := "leaf", desc := "()V" } : Jvm.MethodName)) ∈ sf_TB := sf_in6 188 rfl rfl
set_option maxRecDepth 20000 in
theorem sw_1389 : (Jvm.Cond.code ({ cls := "SplitFaresModel", name := "leaf", desc := "()V" } : Jvm.MethodName) prog_13_method_41_code (1 : Nat) (Option.none : Option Jvm.ClassFile.FieldType)) ∈ sf_TB := sf_in6 189 rfl rfl
set_option maxRecDepth 20000 in
theorem sw_1390 : (Jvm.Cond.methodLink "SplitFaresModel" (204 : Nat) ({ cls := "SplitFaresModel", name := "mustNumber", desc := "(II)V" } : Jvm.MethodName)) ∈ sf_TB := sf_in6 190 rfl rfl
set_option maxRecDepth 20000 in
theorem sw_1392 : (Jvm.Cond.instanceMethod ({ cls := "SplitFaresModel", name := "mustNumber", desc := "(II)V" } : Jvm.MethodName)) ∈ sf_TB := sf_in6 192 rfl rfl
set_option maxRecDepth 20000 in
theorem sw_1393 : (Jvm.Cond.code ({ cls := "SplitFaresModel", name := "mustNumber", desc := "(II)V" } : Jvm.MethodName) prog_13_method_43_code (3 : Nat) (Option.none : Option Jvm.ClassFile.FieldType)) ∈ sf_TB := sf_in6 193 rfl rfl
set_option maxRecDepth 20000 in
theorem sw_1394 : (Jvm.Cond.methodLink "SplitFaresModel" (201 : Nat) ({ cls := "SplitFaresModel", name := "readTest", desc := "(I)V" } : Jvm.MethodName)) ∈ sf_TB := sf_in6 194 rfl rfl
set_option maxRecDepth 20000 in
theorem sw_1396 : (Jvm.Cond.instanceMethod ({ cls := "SplitFaresModel", name := "readTest", desc := "(I)V" } : Jvm.MethodName)) ∈ sf_TB := sf_in6 196 rfl rfl
set_option maxRecDepth 20000 in
theorem sw_1397 : (Jvm.Cond.code ({ cls := "SplitFaresModel", name := "readTest", desc := "(I)V" } : Jvm.MethodName) prog_13_method_47_code (2 : Nat) (Option.none : Option Jvm.ClassFile.FieldType)) ∈ sf_TB := sf_in6 197 rfl rfl
set_option maxRecDepth 20000 in
theorem sw_1398 : (Jvm.Cond.methodLink "SplitFaresModel" (218 : Nat) ({ cls := "SplitFaresModel", name := "readBoth", desc := "(I)V" } : Jvm.MethodName)) ∈ sf_TB := sf_in6 198 rfl rfl
set_option maxRecDepth 20000 in
theorem sw_1400 : (Jvm.Cond.instanceMethod ({ cls := "SplitFaresModel", name := "readBoth", desc := "(I)V" } : Jvm.MethodName)) ∈ sf_TB := sf_in6 200 rfl rfl
set_option maxRecDepth 20000 in
theorem sw_1401 : (Jvm.Cond.code ({ cls := "SplitFaresModel", name := "readBoth", desc := "(I)V" } : Jvm.MethodName) prog_13_method_48_code (2 : Nat) (Option.none : Option Jvm.ClassFile.FieldType)) ∈ sf_TB := sf_in6 201 rfl rfl
set_option maxRecDepth 20000 in
theorem sw_1402 : (Jvm.Cond.methodLink "SplitFaresModel" (221 : Nat) ({ cls := "SplitFaresModel", name := "readPlain", desc := "(I)V" } : Jvm.MethodName)) ∈ sf_TB := sf_in6 202 rfl rfl
set_option maxRecDepth 20000 in
theorem sw_1404 : (Jvm.Cond.instanceMethod ({ cls := "SplitFaresModel", name := "readPlain", desc := "(I)V" } : Jvm.MethodName)) ∈ sf_TB := sf_in6 204 rfl rfl
set_option maxRecDepth 20000 in
theorem sw_1405 : (Jvm.Cond.code ({ cls := "SplitFaresModel", name := "readPlain", desc := "(I)V" } : Jvm.MethodName) prog_13_method_49_code (4 : Nat) (Option.none : Option Jvm.ClassFile.FieldType)) ∈ sf_TB := sf_in6 205 rfl rfl
set_option maxRecDepth 20000 in
theorem sw_1406 : (Jvm.Cond.methodLink "SplitFaresModel" (215 : Nat) ({ cls := "SplitFaresModel", name := "readClause", desc := "()V" } : Jvm.MethodName)) ∈ sf_TB := sf_in6 206 rfl rfl
set_option maxRecDepth 20000 in
theorem sw_1408 : (Jvm.Cond.instanceMethod ({ cls := "SplitFaresModel", name := "readClause", desc := "()V" } : Jvm.MethodName)) ∈ sf_TB := sf_in6 208 rfl rfl
set_option maxRecDepth 20000 in
theorem sw_1409 : (Jvm.Cond.code ({ cls := "SplitFaresModel", name := "readClause", desc := "()V" } : Jvm.MethodName) prog_13_method_44_code (1 : Nat) (Option.none : Option Jvm.ClassFile.FieldType)) ∈ sf_TB := sf_in6 209 rfl rfl
set_option maxRecDepth 20000 in
theorem sw_1410 : (Jvm.Cond.methodLink "SplitFaresModel" (256 : Nat) ({ cls := "SplitFaresModel", name := "lays", desc := "(I)V" } : Jvm.MethodName)) ∈ sf_TB := sf_in6 210 rfl rfl
set_option maxRecDepth 20000 in
theorem sw_1412 : (Jvm.Cond.instanceMethod ({ cls := "SplitFaresModel", name := "lays", desc := "(I)V" } : Jvm.MethodName)) ∈ sf_TB := sf_in6 212 rfl rfl
set_option maxRecDepth 20000 in
theorem sw_1413 : (Jvm.Cond.code ({ cls := "SplitFaresModel", name := "lays", desc := "(I)V" } : Jvm.MethodName) prog_13_method_55_code (3 : Nat) (Option.none : Option Jvm.ClassFile.FieldType)) ∈ sf_TB := sf_in6 213 rfl rfl
set_option maxRecDepth 20000 in
theorem sw_1414 : (Jvm.Cond.methodLink "SplitFaresLaw" (70 : Nat) ({ cls := "SplitFaresModel", name := "fault", desc := "()I" } : Jvm.MethodName)) ∈ sf_TB := sf_in6 214 rfl rfl
set_option maxRecDepth 20000 in
theorem sw_1415 : (Jvm.Cond.instanceMethod ({ cls := "SplitFaresModel", name := "fault", desc := "()I" } : Jvm.MethodName)) ∈ sf_TB := sf_in6 215 rfl rfl
set_option maxRecDepth 20000 in
theorem sw_1416 : (Jvm.Cond.selects "SplitFaresModel" ({ cls := "SplitFaresModel", name := "fault", desc := "()I" } : Jvm.MethodName) ({ cls := "SplitFaresModel", name := "fault", desc := "()I" } : Jvm.MethodName)) ∈ sf_TB := sf_in6 216 rfl rfl
set_option maxRecDepth 20000 in
theorem sw_1417 : (Jvm.Cond.code ({ cls := "SplitFaresModel", name := "fault", desc := "()I" } : Jvm.MethodName) prog_13_method_57_code (1 : Nat) (Option.some Jvm.ClassFile.FieldType.int)) ∈ sf_TB := sf_in6 217 rfl rfl
set_option maxRecDepth 20000 in
theorem sw_1418 : (Jvm.Cond.methodLink "SplitFaresLaw" (78 : Nat) ({ cls := "SplitFaresModel", name := "force", desc := "(I)I" } : Jvm.MethodName)) ∈ sf_TB := sf_in6 218 rfl rfl
set_option maxRecDepth 20000 in
theorem sw_1419 : (Jvm.Cond.instanceMethod ({ cls := "SplitFaresModel", name := "force", desc := "(I)I" } : Jvm.MethodName)) ∈ sf_TB := sf_in6 219 rfl rfl
set_option maxRecDepth 20000 in
theorem sw_1420 : (Jvm.Cond.selects "SplitFaresModel" ({ cls := "SplitFaresModel", name := "force", desc := "(I)I" } : Jvm.MethodName) ({ cls := "SplitFaresModel", name := "force", desc := "(I)I" } : Jvm.MethodName)) ∈ sf_TB := sf_in6 220 rfl rfl
set_option maxRecDepth 20000 in
theorem sw_1421 : (Jvm.Cond.code ({ cls := "SplitFaresModel", name := "force", desc := "(I)I" } : Jvm.MethodName) prog_13_method_59_code (3 : Nat) (Option.some Jvm.ClassFile.FieldType.int)) ∈ sf_TB := sf_in6 221 rfl rfl
set_option maxRecDepth 20000 in
theorem sw_1422 : (Jvm.Cond.methodLink "SplitFaresModel" (259 : Nat) ({ cls := "SplitFaresModel", name := "isLaw", desc := "(I)Z" } : Jvm.MethodName)) ∈ sf_TB := sf_in6 222 rfl rfl
set_option maxRecDepth 20000 in
theorem sw_1424 : (Jvm.Cond.instanceMethod ({ cls := "SplitFaresModel", name := "isLaw", desc := "(I)Z" } : Jvm.MethodName)) ∈ sf_TB := sf_in6 224 rfl rfl
set_option maxRecDepth 20000 in
theorem sw_1425 : (Jvm.Cond.code ({ cls := "SplitFaresModel", name := "isLaw", desc := "(I)Z" } : Jvm.MethodName) prog_13_method_58_code (2 : Nat) (Option.some Jvm.ClassFile.FieldType.boolean)) ∈ sf_TB := sf_in6 225 rfl rfl
set_option maxRecDepth 20000 in
theorem sw_1426 : (Jvm.Cond.methodLink "SplitFaresLaw" (26 : Nat) ({ cls := "SplitFaresModel", name := "price", desc := "(III)I" } : Jvm.MethodName)) ∈ sf_TB := sf_in6 226 rfl rfl
set_option maxRecDepth 20000 in
theorem sw_1427 : (Jvm.Cond.instanceMethod ({ cls := "SplitFaresModel", name := "price", desc := "(III)I" } : Jvm.MethodName)) ∈ sf_TB := sf_in6 227 rfl rfl
set_option maxRecDepth 20000 in
theorem sw_1428 : (Jvm.Cond.selects "SplitFaresModel" ({ cls := "SplitFaresModel", name := "price", desc := "(III)I" } : Jvm.MethodName) ({ cls := "SplitFaresModel", name := "price", desc := "(III)I" } : Jvm.MethodName)) ∈ sf_TB := sf_in6 228 rfl rfl
set_option maxRecDepth 20000 in
theorem sw_1429 : (Jvm.Cond.code ({ cls := "SplitFaresModel", name := "price", desc := "(III)I" } : Jvm.MethodName) prog_13_method_77_code (4 : Nat) (Option.some Jvm.ClassFile.FieldType.int)) ∈ sf_TB := sf_in6 229 rfl rfl
set_option maxRecDepth 20000 in
theorem sw_1430 : (Jvm.Cond.methodLink "SplitFaresModel" (339 : Nat) ({ cls := "SplitFaresModel", name := "costOf", desc := "(III)I" } : Jvm.MethodName)) ∈ sf_TB := sf_in6 230 rfl rfl
set_option maxRecDepth 20000 in
theorem sw_1432 : (Jvm.Cond.instanceMethod ({ cls := "SplitFaresModel", name := "costOf", desc := "(III)I" } : Jvm.MethodName)) ∈ sf_TB := sf_in6 232 rfl rfl
set_option maxRecDepth 20000 in
theorem sw_1433 : (Jvm.Cond.code ({ cls := "SplitFaresModel", name := "costOf", desc := "(III)I" } : Jvm.MethodName) prog_13_method_74_code (4 : Nat) (Option.some Jvm.ClassFile.FieldType.int)) ∈ sf_TB := sf_in6 233 rfl rfl
set_option maxRecDepth 20000 in
theorem sw_1434 : (Jvm.Cond.methodLink "SplitFaresModel" (328 : Nat) ({ cls := "SplitFaresModel", name := "setsAsked", desc := "(IIII)V" } : Jvm.MethodName)) ∈ sf_TB := sf_in6 234 rfl rfl
set_option maxRecDepth 20000 in
theorem sw_1436 : (Jvm.Cond.instanceMethod ({ cls := "SplitFaresModel", name := "setsAsked", desc := "(IIII)V" } : Jvm.MethodName)) ∈ sf_TB := sf_in6 236 rfl rfl
set_option maxRecDepth 20000 in
theorem sw_1437 : (Jvm.Cond.code ({ cls := "SplitFaresModel", name := "setsAsked", desc := "(IIII)V" } : Jvm.MethodName) prog_13_method_72_code (5 : Nat) (Option.none : Option Jvm.ClassFile.FieldType)) ∈ sf_TB := sf_in6 237 rfl rfl
set_option maxRecDepth 20000 in
theorem sw_1438 : (Jvm.Cond.methodLink "SplitFaresModel" (323 : Nat) ({ cls := "SplitFaresModel", name := "far", desc := "(II)I" } : Jvm.MethodName)) ∈ sf_TB := sf_in6 238 rfl rfl
set_option maxRecDepth 20000 in
theorem sw_1439 : (Jvm.Cond.static ({ cls := "SplitFaresModel", name := "far", desc := "(II)I" } : Jvm.MethodName)) ∈ sf_TB := sf_in6 239 rfl rfl
set_option maxRecDepth 20000 in
theorem sw_1440 : (Jvm.Cond.code ({ cls := "SplitFaresModel", name := "far", desc := "(II)I" } : Jvm.MethodName) prog_13_method_71_code (2 : Nat) (Option.some Jvm.ClassFile.FieldType.int)) ∈ sf_TB := sf_in7 0 rfl rfl
set_option maxRecDepth 20000 in
theorem sw_1441 : (Jvm.Cond.methodLink "SplitFaresModel" (332 : Nat) ({ cls := "SplitFaresModel", name := "tells", desc := "(II)I" } : Jvm.MethodName)) ∈ sf_TB := sf_in7 1 rfl rfl
set_option maxRecDepth 20000 in
theorem sw_1443 : (Jvm.Cond.instanceMethod ({ cls := "SplitFaresModel", name := "tells", desc := "(II)I" } : Jvm.MethodName)) ∈ sf_TB := sf_in7 3 rfl rfl
set_option maxRecDepth 20000 in
theorem sw_1444 : (Jvm.Cond.code ({ cls := "SplitFaresModel", name := "tells", desc := "(II)I" } : Jvm.MethodName) prog_13_method_73_code (10 : Nat) (Option.some Jvm.ClassFile.FieldType.int)) ∈ sf_TB := sf_in7 4 rfl rfl
set_option maxRecDepth 20000 in
theorem sw_1445 : (Jvm.Cond.methodLink "SplitFaresModel" (268 : Nat) ({ cls := "SplitFaresModel", name := "codeAt", desc := "(I)I" } : Jvm.MethodName)) ∈ sf_TB := sf_in7 5 rfl rfl
set_option maxRecDepth 20000 in
theorem sw_1447 : (Jvm.Cond.instanceMethod ({ cls := "SplitFaresModel", name := "codeAt", desc := "(I)I" } : Jvm.MethodName)) ∈ sf_TB := sf_in7 7 rfl rfl
set_option maxRecDepth 20000 in
theorem sw_1448 : (Jvm.Cond.code ({ cls := "SplitFaresModel", name := "codeAt", desc := "(I)I" } : Jvm.MethodName) prog_13_method_60_code (2 : Nat) (Option.some Jvm.ClassFile.FieldType.int)) ∈ sf_TB := sf_in7 8 rfl rfl
set_option maxRecDepth 20000 in
theorem sw_1449 : (Jvm.Cond.methodLink "SplitFaresModel" (292 : Nat) ({ cls := "SplitFaresModel", name := "sumOf", desc := "(Z)J" } : Jvm.MethodName)) ∈ sf_TB := sf_in7 9 rfl rfl
set_option maxRecDepth 20000 in
theorem sw_1451 : (Jvm.Cond.instanceMethod ({ cls := "SplitFaresModel", name := "sumOf", desc := "(Z)J" } : Jvm.MethodName)) ∈ sf_TB := sf_in7 11 rfl rfl
set_option maxRecDepth 20000 in
theorem sw_1452 : (Jvm.Cond.code ({ cls := "SplitFaresModel", name := "sumOf", desc := "(Z)J" } : Jvm.MethodName) prog_13_method_63_code (7 : Nat) (Option.some Jvm.ClassFile.FieldType.long)) ∈ sf_TB := sf_in7 12 rfl rfl
set_option maxRecDepth 20000 in
theorem sw_1453 : (Jvm.Cond.methodLink "SplitFaresModel" (278 : Nat) ({ cls := "SplitFaresModel", name := "termOf", desc := "(Z)J" } : Jvm.MethodName)) ∈ sf_TB := sf_in7 13 rfl rfl
set_option maxRecDepth 20000 in
theorem sw_1455 : (Jvm.Cond.instanceMethod ({ cls := "SplitFaresModel", name := "termOf", desc := "(Z)J" } : Jvm.MethodName)) ∈ sf_TB := sf_in7 15 rfl rfl
set_option maxRecDepth 20000 in
theorem sw_1456 : (Jvm.Cond.code ({ cls := "SplitFaresModel", name := "termOf", desc := "(Z)J" } : Jvm.MethodName) prog_13_method_64_code (7 : Nat) (Option.some Jvm.ClassFile.FieldType.long)) ∈ sf_TB := sf_in7 16 rfl rfl
set_option maxRecDepth 20000 in
theorem sw_1457 : (Jvm.Cond.methodLink "SplitFaresModel" (286 : Nat) ({ cls := "SplitFaresModel", name := "partOf", desc := "(Z)J" } : Jvm.MethodName)) ∈ sf_TB := sf_in7 17 rfl rfl
set_option maxRecDepth 20000 in
theorem sw_1459 : (Jvm.Cond.instanceMethod ({ cls := "SplitFaresModel", name := "partOf", desc := "(Z)J" } : Jvm.MethodName)) ∈ sf_TB := sf_in7 19 rfl rfl
set_option maxRecDepth 20000 in
theorem sw_1460 : (Jvm.Cond.code ({ cls := "SplitFaresModel", name := "partOf", desc := "(Z)J" } : Jvm.MethodName) prog_13_method_65_code (4 : Nat) (Option.some Jvm.ClassFile.FieldType.long)) ∈ sf_TB := sf_in7 20 rfl rfl
set_option maxRecDepth 20000 in
theorem sw_1461 : (Jvm.Cond.methodLink "SplitFaresModel" (289 : Nat) ({ cls := "SplitFaresModel", name := "passes0", desc := "(I)Z" } : Jvm.MethodName)) ∈ sf_TB := sf_in7 21 rfl rfl
set_option maxRecDepth 20000 in
theorem sw_1463 : (Jvm.Cond.instanceMethod ({ cls := "SplitFaresModel", name := "passes0", desc := "(I)Z" } : Jvm.MethodName)) ∈ sf_TB := sf_in7 23 rfl rfl
set_option maxRecDepth 20000 in
theorem sw_1464 : (Jvm.Cond.code ({ cls := "SplitFaresModel", name := "passes0", desc := "(I)Z" } : Jvm.MethodName) prog_13_method_61_code (3 : Nat) (Option.some Jvm.ClassFile.FieldType.boolean)) ∈ sf_TB := sf_in7 24 rfl rfl
set_option maxRecDepth 20000 in
theorem sw_1465 : (Jvm.Cond.methodLink "SplitFaresModel" (298 : Nat) ({ cls := "SplitFaresModel", name := "orderValue", desc := "(II)I" } : Jvm.MethodName)) ∈ sf_TB := sf_in7 25 rfl rfl
set_option maxRecDepth 20000 in
theorem sw_1467 : (Jvm.Cond.instanceMethod ({ cls := "SplitFaresModel", name := "orderValue", desc := "(II)I" } : Jvm.MethodName)) ∈ sf_TB := sf_in7 27 rfl rfl
set_option maxRecDepth 20000 in
theorem sw_1468 : (Jvm.Cond.code ({ cls := "SplitFaresModel", name := "orderValue", desc := "(II)I" } : Jvm.MethodName) prog_13_method_66_code (3 : Nat) (Option.some Jvm.ClassFile.FieldType.int)) ∈ sf_TB := sf_in7 28 rfl rfl
set_option maxRecDepth 20000 in
theorem sw_1469 : (Jvm.Cond.methodLink "SplitFaresModel" (307 : Nat) ({ cls := "SplitFaresModel", name := "heldAll", desc := "()I" } : Jvm.MethodName)) ∈ sf_TB := sf_in7 29 rfl rfl
set_option maxRecDepth 20000 in
theorem sw_1471 : (Jvm.Cond.instanceMethod ({ cls := "SplitFaresModel", name := "heldAll", desc := "()I" } : Jvm.MethodName)) ∈ sf_TB := sf_in7 31 rfl rfl
set_option maxRecDepth 20000 in
theorem sw_1472 : (Jvm.Cond.code ({ cls := "SplitFaresModel", name := "heldAll", desc := "()I" } : Jvm.MethodName) prog_13_method_25_code (1 : Nat) (Option.some Jvm.ClassFile.FieldType.int)) ∈ sf_TB := sf_in7 32 rfl rfl
set_option maxRecDepth 20000 in
theorem sw_1473 : (Jvm.Cond.methodLink "SplitFaresModel" (147 : Nat) ({ cls := "SplitFaresModel", name := "heldOf", desc := "(II)I" } : Jvm.MethodName)) ∈ sf_TB := sf_in7 33 rfl rfl
set_option maxRecDepth 20000 in
theorem sw_1475 : (Jvm.Cond.instanceMethod ({ cls := "SplitFaresModel", name := "heldOf", desc := "(II)I" } : Jvm.MethodName)) ∈ sf_TB := sf_in7 35 rfl rfl
set_option maxRecDepth 20000 in
theorem sw_1476 : (Jvm.Cond.code ({ cls := "SplitFaresModel", name := "heldOf", desc := "(II)I" } : Jvm.MethodName) prog_13_method_24_code (5 : Nat) (Option.some Jvm.ClassFile.FieldType.int)) ∈ sf_TB := sf_in7 36 rfl rfl
set_option maxRecDepth 20000 in
theorem sw_1477 : (Jvm.Cond.methodLink "SplitFaresModel" (282 : Nat) ({ cls := "SplitFaresModel", name := "bounded", desc := "(JZ)J" } : Jvm.MethodName)) ∈ sf_TB := sf_in7 37 rfl rfl
set_option maxRecDepth 20000 in
theorem sw_1479 : (Jvm.Cond.instanceMethod ({ cls := "SplitFaresModel", name := "bounded", desc := "(JZ)J" } : Jvm.MethodName)) ∈ sf_TB := sf_in7 39 rfl rfl
set_option maxRecDepth 20000 in
theorem sw_1480 : (Jvm.Cond.code ({ cls := "SplitFaresModel", name := "bounded", desc := "(JZ)J" } : Jvm.MethodName) prog_13_method_62_code (4 : Nat) (Option.some Jvm.ClassFile.FieldType.long)) ∈ sf_TB := sf_in7 40 rfl rfl
set_option maxRecDepth 20000 in
theorem sw_1481 : (Jvm.Cond.constantLong "SplitFaresModel" (271 : Nat) (1000000000 : Int64)) ∈ sf_TB := sf_in7 41 rfl rfl
set_option maxRecDepth 20000 in
theorem sw_1482 : (Jvm.Cond.constantLong "SplitFaresModel" (273 : Nat) (-1000000000 : Int64)) ∈ sf_TB := sf_in7 42 rfl rfl
set_option maxRecDepth 20000 in
theorem sw_1483 : (Jvm.Cond.methodLink "SplitFaresModel" (320 : Nat) ({ cls := "SplitFaresModel", name := "testOf", desc := "(Z)Z" } : Jvm.MethodName)) ∈ sf_TB := sf_in7 43 rfl rfl
set_option maxRecDepth 20000 in
theorem sw_1485 : (Jvm.Cond.instanceMethod ({ cls := "SplitFaresModel", name := "testOf", desc := "(Z)Z" } : Jvm.MethodName)) ∈ sf_TB := sf_in7 45 rfl rfl
set_option maxRecDepth 20000 in
theorem sw_1486 : (Jvm.Cond.code ({ cls := "SplitFaresModel", name := "testOf", desc := "(Z)Z" } : Jvm.MethodName) prog_13_method_67_code (4 : Nat) (Option.some Jvm.ClassFile.FieldType.boolean)) ∈ sf_TB := sf_in7 46 rfl rfl
set_option maxRecDepth 20000 in
theorem sw_1487 : (Jvm.Cond.methodLink "SplitFaresModel" (311 : Nat) ({ cls := "SplitFaresModel", name := "bothOf", desc := "(Z)Z" } : Jvm.MethodName)) ∈ sf_TB := sf_in7 47 rfl rfl
set_option maxRecDepth 20000 in
theorem sw_1489 : (Jvm.Cond.instanceMethod ({ cls := "SplitFaresModel", name := "bothOf", desc := "(Z)Z" } : Jvm.MethodName)) ∈ sf_TB := sf_in7 49 rfl rfl
set_option maxRecDepth 20000 in
theorem sw_1490 : (Jvm.Cond.code ({ cls := "SplitFaresModel", name := "bothOf", desc := "(Z)Z" } : Jvm.MethodName) prog_13_method_68_code (4 : Nat) (Option.some Jvm.ClassFile.FieldType.boolean)) ∈ sf_TB := sf_in7 50 rfl rfl
set_option maxRecDepth 20000 in
theorem sw_1491 : (Jvm.Cond.methodLink "SplitFaresModel" (314 : Nat) ({ cls := "SplitFaresModel", name := "plainOf", desc := "(Z)Z" } : Jvm.MethodName)) ∈ sf_TB := sf_in7 51 rfl rfl
set_option maxRecDepth 20000 in
theorem sw_1493 : (Jvm.Cond.instanceMethod ({ cls := "SplitFaresModel", name := "plainOf", desc := "(Z)Z" } : Jvm.MethodName)) ∈ sf_TB := sf_in7 53 rfl rfl
set_option maxRecDepth 20000 in
theorem sw_1494 : (Jvm.Cond.code ({ cls := "SplitFaresModel", name := "plainOf", desc := "(Z)Z" } : Jvm.MethodName) prog_13_method_69_code (3 : Nat) (Option.some Jvm.ClassFile.FieldType.boolean)) ∈ sf_TB := sf_in7 54 rfl rfl
set_option maxRecDepth 20000 in
theorem sw_1495 : (Jvm.Cond.methodLink "SplitFaresModel" (317 : Nat) ({ cls := "SplitFaresModel", name := "positiveOf", desc := "(Z)Z" } : Jvm.MethodName)) ∈ sf_TB := sf_in7 55 rfl rfl
set_option maxRecDepth 20000 in
theorem sw_1497 : (Jvm.Cond.instanceMethod ({ cls := "SplitFaresModel", name := "positiveOf", desc := "(Z)Z" } : Jvm.MethodName)) ∈ sf_TB := sf_in7 57 rfl rfl
set_option maxRecDepth 20000 in
theorem sw_1498 : (Jvm.Cond.code ({ cls := "SplitFaresModel", name := "positiveOf", desc := "(Z)Z" } : Jvm.MethodName) prog_13_method_70_code (7 : Nat) (Option.some Jvm.ClassFile.FieldType.boolean)) ∈ sf_TB := sf_in7 58 rfl rfl
set_option maxRecDepth 20000 in
theorem sw_1499 : (Jvm.Cond.constantLong "SplitFaresModel" (326 : Nat) (9999 : Int64)) ∈ sf_TB := sf_in7 59 rfl rfl
set_option maxRecDepth 20000 in
theorem sw_1500 : (Jvm.Cond.methodLink "SplitFaresLaw" (31 : Nat) ({ cls := "SplitFaresModel", name := "isBarred", desc := "(IIII)I" } : Jvm.MethodName)) ∈ sf_TB := sf_in7 60 rfl rfl
set_option maxRecDepth 20000 in
theorem sw_1501 : (Jvm.Cond.instanceMethod ({ cls := "SplitFaresModel", name := "isBarred", desc := "(IIII)I" } : Jvm.MethodName)) ∈ sf_TB := sf_in7 61 rfl rfl
set_option maxRecDepth 20000 in
theorem sw_1502 : (Jvm.Cond.selects "SplitFaresModel" ({ cls := "SplitFaresModel", name := "isBarred", desc := "(IIII)I" } : Jvm.MethodName) ({ cls := "SplitFaresModel", name := "isBarred", desc := "(IIII)I" } : Jvm.MethodName)) ∈ sf_TB := sf_in7 62 rfl rfl
set_option maxRecDepth 20000 in
theorem sw_1503 : (Jvm.Cond.code ({ cls := "SplitFaresModel", name := "isBarred", desc := "(IIII)I" } : Jvm.MethodName) prog_13_method_78_code (5 : Nat) (Option.some Jvm.ClassFile.FieldType.int)) ∈ sf_TB := sf_in7 63 rfl rfl
set_option maxRecDepth 20000 in
theorem sw_1504 : (Jvm.Cond.methodLink "SplitFaresModel" (335 : Nat) ({ cls := "SplitFaresModel", name := "barredFrom", desc := "(IIII)Z" } : Jvm.MethodName)) ∈ sf_TB := sf_in7 64 rfl rfl
set_option maxRecDepth 20000 in
theorem sw_1506 : (Jvm.Cond.instanceMethod ({ cls := "SplitFaresModel", name := "barredFrom", desc := "(IIII)Z" } : Jvm.MethodName)) ∈ sf_TB := sf_in7 66 rfl rfl
set_option maxRecDepth 20000 in
theorem sw_1507 : (Jvm.Cond.code ({ cls := "SplitFaresModel", name := "barredFrom", desc := "(IIII)Z" } : Jvm.MethodName) prog_13_method_75_code (5 : Nat) (Option.some Jvm.ClassFile.FieldType.boolean)) ∈ sf_TB := sf_in7 67 rfl rfl
set_option maxRecDepth 20000 in
theorem sw_1508 : (Jvm.Cond.methodLink "SplitFaresLaw" (102 : Nat) ({ cls := "SplitFaresModel", name := "cheapest", desc := "(IIII)I" } : Jvm.MethodName)) ∈ sf_TB := sf_in7 68 rfl rfl
set_option maxRecDepth 20000 in
theorem sw_1509 : (Jvm.Cond.instanceMethod ({ cls := "SplitFaresModel", name := "cheapest", desc := "(IIII)I" } : Jvm.MethodName)) ∈ sf_TB := sf_in7 69 rfl rfl
set_option maxRecDepth 20000 in
theorem sw_1510 : (Jvm.Cond.selects "SplitFaresModel" ({ cls := "SplitFaresModel", name := "cheapest", desc := "(IIII)I" } : Jvm.MethodName) ({ cls := "SplitFaresModel", name := "cheapest", desc := "(IIII)I" } : Jvm.MethodName)) ∈ sf_TB := sf_in7 70 rfl rfl
set_option maxRecDepth 20000 in
theorem sw_1511 : (Jvm.Cond.code ({ cls := "SplitFaresModel", name := "cheapest", desc := "(IIII)I" } : Jvm.MethodName) prog_13_method_90_code (6 : Nat) (Option.some Jvm.ClassFile.FieldType.int)) ∈ sf_TB := sf_in7 71 rfl rfl
set_option maxRecDepth 20000 in
theorem sw_1512 : (Jvm.Cond.methodLink "SplitFaresModel" (376 : Nat) ({ cls := "SplitFaresModel", name := "canAsk", desc := "(III)Z" } : Jvm.MethodName)) ∈ sf_TB := sf_in7 72 rfl rfl
set_option maxRecDepth 20000 in
theorem sw_1514 : (Jvm.Cond.instanceMethod ({ cls := "SplitFaresModel", name := "canAsk", desc := "(III)Z" } : Jvm.MethodName)) ∈ sf_TB := sf_in7 74 rfl rfl
set_option maxRecDepth 20000 in
theorem sw_1515 : (Jvm.Cond.code ({ cls := "SplitFaresModel", name := "canAsk", desc := "(III)Z" } : Jvm.MethodName) prog_13_method_88_code (4 : Nat) (Option.some Jvm.ClassFile.FieldType.boolean)) ∈ sf_TB := sf_in7 75 rfl rfl
set_option maxRecDepth 20000 in
theorem sw_1516 : (Jvm.Cond.methodLink "SplitFaresModel" (361 : Nat) ({ cls := "SplitFaresModel", name := "goes", desc := "(III)Z" } : Jvm.MethodName)) ∈ sf_TB := sf_in7 76 rfl rfl
set_option maxRecDepth 20000 in
theorem sw_1518 : (Jvm.Cond.instanceMethod ({ cls := "SplitFaresModel", name := "goes", desc := "(III)Z" } : Jvm.MethodName)) ∈ sf_TB := sf_in7 78 rfl rfl
set_option maxRecDepth 20000 in
theorem sw_1519 : (Jvm.Cond.code ({ cls := "SplitFaresModel", name := "goes", desc := "(III)Z" } : Jvm.MethodName) prog_13_method_79_code (4 : Nat) (Option.some Jvm.ClassFile.FieldType.boolean)) ∈ sf_TB := sf_in7 79 rfl rfl
set_option maxRecDepth 20000 in
theorem sw_1520 : (Jvm.Cond.methodLink "SplitFaresModel" (342 : Nat) ({ cls := "SplitFaresModel", name := "isIn", desc := "(II)Z" } : Jvm.MethodName)) ∈ sf_TB := sf_in7 80 rfl rfl
set_option maxRecDepth 20000 in
theorem sw_1521 : (Jvm.Cond.static ({ cls := "SplitFaresModel", name := "isIn", desc := "(II)Z" } : Jvm.MethodName)) ∈ sf_TB := sf_in7 81 rfl rfl
set_option maxRecDepth 20000 in
theorem sw_1522 : (Jvm.Cond.code ({ cls := "SplitFaresModel", name := "isIn", desc := "(II)Z" } : Jvm.MethodName) prog_13_method_7_code (2 : Nat) (Option.some Jvm.ClassFile.FieldType.boolean)) ∈ sf_TB := sf_in7 82 rfl rfl
set_option maxRecDepth 20000 in
theorem sw_1523 : (Jvm.Cond.methodLink "SplitFaresModel" (379 : Nat) ({ cls := "SplitFaresModel", name := "cheapestOf", desc := "(III)I" } : Jvm.MethodName)) ∈ sf_TB := sf_in7 83 rfl rfl
set_option maxRecDepth 20000 in
theorem sw_1525 : (Jvm.Cond.instanceMethod ({ cls := "SplitFaresModel", name := "cheapestOf", desc := "(III)I" } : Jvm.MethodName)) ∈ sf_TB := sf_in7 85 rfl rfl
set_option maxRecDepth 20000 in
theorem sw_1526 : (Jvm.Cond.code ({ cls := "SplitFaresModel", name := "cheapestOf", desc := "(III)I" } : Jvm.MethodName) prog_13_method_89_code (4 : Nat) (Option.some Jvm.ClassFile.FieldType.int)) ∈ sf_TB := sf_in7 86 rfl rfl
set_option maxRecDepth 20000 in
theorem sw_1527 : (Jvm.Cond.methodLink "SplitFaresModel" (364 : Nat) ({ cls := "SplitFaresModel", name := "laysLine", desc := "(III)V" } : Jvm.MethodName)) ∈ sf_TB := sf_in7 87 rfl rfl
set_option maxRecDepth 20000 in
theorem sw_1529 : (Jvm.Cond.instanceMethod ({ cls := "SplitFaresModel", name := "laysLine", desc := "(III)V" } : Jvm.MethodName)) ∈ sf_TB := sf_in7 89 rfl rfl
set_option maxRecDepth 20000 in
theorem sw_1530 : (Jvm.Cond.code ({ cls := "SplitFaresModel", name := "laysLine", desc := "(III)V" } : Jvm.MethodName) prog_13_method_80_code (6 : Nat) (Option.none : Option Jvm.ClassFile.FieldType)) ∈ sf_TB := sf_in7 90 rfl rfl
set_option maxRecDepth 20000 in
theorem sw_1531 : (Jvm.Cond.methodLink "SplitFaresModel" (367 : Nat) ({ cls := "SplitFaresModel", name := "laysSingles", desc := "(I)V" } : Jvm.MethodName)) ∈ sf_TB := sf_in7 91 rfl rfl
set_option maxRecDepth 20000 in
theorem sw_1533 : (Jvm.Cond.instanceMethod ({ cls := "SplitFaresModel", name := "laysSingles", desc := "(I)V" } : Jvm.MethodName)) ∈ sf_TB := sf_in7 93 rfl rfl
set_option maxRecDepth 20000 in
theorem sw_1534 : (Jvm.Cond.code ({ cls := "SplitFaresModel", name := "laysSingles", desc := "(I)V" } : Jvm.MethodName) prog_13_method_81_code (4 : Nat) (Option.none : Option Jvm.ClassFile.FieldType)) ∈ sf_TB := sf_in7 94 rfl rfl
set_option maxRecDepth 20000 in
theorem sw_1535 : (Jvm.Cond.constant "SplitFaresModel" (348 : Nat) (100000000 : Int32)) ∈ sf_TB := sf_in7 95 rfl rfl
set_option maxRecDepth 20000 in
theorem sw_1536 : (Jvm.Cond.methodLink "SplitFaresModel" (370 : Nat) ({ cls := "SplitFaresModel", name := "laysLeft", desc := "()V" } : Jvm.MethodName)) ∈ sf_TB := sf_in7 96 rfl rfl
set_option maxRecDepth 20000 in
theorem sw_1538 : (Jvm.Cond.instanceMethod ({ cls := "SplitFaresModel", name := "laysLeft", desc := "()V" } : Jvm.MethodName)) ∈ sf_TB := sf_in7 98 rfl rfl
set_option maxRecDepth 20000 in
theorem sw_1539 : (Jvm.Cond.code ({ cls := "SplitFaresModel", name := "laysLeft", desc := "()V" } : Jvm.MethodName) prog_13_method_84_code (3 : Nat) (Option.none : Option Jvm.ClassFile.FieldType)) ∈ sf_TB := sf_in7 99 rfl rfl
set_option maxRecDepth 20000 in
theorem sw_1540 : (Jvm.Cond.methodLink "SplitFaresModel" (355 : Nat) ({ cls := "SplitFaresModel", name := "lesser", desc := "(II)I" } : Jvm.MethodName)) ∈ sf_TB := sf_in7 100 rfl rfl
set_option maxRecDepth 20000 in
theorem sw_1541 : (Jvm.Cond.static ({ cls := "SplitFaresModel", name := "lesser", desc := "(II)I" } : Jvm.MethodName)) ∈ sf_TB := sf_in7 101 rfl rfl
set_option maxRecDepth 20000 in
theorem sw_1542 : (Jvm.Cond.code ({ cls := "SplitFaresModel", name := "lesser", desc := "(II)I" } : Jvm.MethodName) prog_13_method_2_code (2 : Nat) (Option.some Jvm.ClassFile.FieldType.int)) ∈ sf_TB := sf_in7 102 rfl rfl
set_option maxRecDepth 20000 in
theorem sw_1543 : (Jvm.Cond.methodLink "SplitFaresModel" (373 : Nat) ({ cls := "SplitFaresModel", name := "laidOr", desc := "()I" } : Jvm.MethodName)) ∈ sf_TB := sf_in7 103 rfl rfl
set_option maxRecDepth 20000 in
theorem sw_1545 : (Jvm.Cond.instanceMethod ({ cls := "SplitFaresModel", name := "laidOr", desc := "()I" } : Jvm.MethodName)) ∈ sf_TB := sf_in7 105 rfl rfl
set_option maxRecDepth 20000 in
theorem sw_1546 : (Jvm.Cond.code ({ cls := "SplitFaresModel", name := "laidOr", desc := "()I" } : Jvm.MethodName) prog_13_method_87_code (1 : Nat) (Option.some Jvm.ClassFile.FieldType.int)) ∈ sf_TB := sf_in7 106 rfl rfl
set_option maxRecDepth 20000 in
theorem sw_1547 : (Jvm.Cond.methodLink "SplitFaresModel" (382 : Nat) ({ cls := "SplitFaresModel", name := "endOf", desc := "(I)I" } : Jvm.MethodName)) ∈ sf_TB := sf_in7 107 rfl rfl
set_option maxRecDepth 20000 in
theorem sw_1549 : (Jvm.Cond.instanceMethod ({ cls := "SplitFaresModel", name := "endOf", desc := "(I)I" } : Jvm.MethodName)) ∈ sf_TB := sf_in7 109 rfl rfl
set_option maxRecDepth 20000 in
theorem sw_1550 : (Jvm.Cond.code ({ cls := "SplitFaresModel", name := "endOf", desc := "(I)I" } : Jvm.MethodName) prog_13_method_86_code (4 : Nat) (Option.some Jvm.ClassFile.FieldType.int)) ∈ sf_TB := sf_in7 110 rfl rfl
set_option maxRecDepth 20000 in
theorem sw_1551 : (Jvm.Cond.methodLink "SplitFaresModel" (358 : Nat) ({ cls := "SplitFaresModel", name := "nextOf", desc := "(I)I" } : Jvm.MethodName)) ∈ sf_TB := sf_in7 111 rfl rfl
set_option maxRecDepth 20000 in
theorem sw_1553 : (Jvm.Cond.instanceMethod ({ cls := "SplitFaresModel", name := "nextOf", desc := "(I)I" } : Jvm.MethodName)) ∈ sf_TB := sf_in7 113 rfl rfl
set_option maxRecDepth 20000 in
theorem sw_1554 : (Jvm.Cond.code ({ cls := "SplitFaresModel", name := "nextOf", desc := "(I)I" } : Jvm.MethodName) prog_13_method_85_code (3 : Nat) (Option.some Jvm.ClassFile.FieldType.int)) ∈ sf_TB := sf_in7 114 rfl rfl
set_option maxRecDepth 20000 in
theorem sw_1555 : (Jvm.Cond.methodLink "SplitFaresLaw" (106 : Nat) ({ cls := "SplitFaresModel", name := "byAtMost", desc := "(IIII)I" } : Jvm.MethodName)) ∈ sf_TB := sf_in7 115 rfl rfl
set_option maxRecDepth 20000 in
theorem sw_1556 : (Jvm.Cond.instanceMethod ({ cls := "SplitFaresModel", name := "byAtMost", desc := "(IIII)I" } : Jvm.MethodName)) ∈ sf_TB := sf_in7 116 rfl rfl
set_option maxRecDepth 20000 in
theorem sw_1557 : (Jvm.Cond.selects "SplitFaresModel" ({ cls := "SplitFaresModel", name := "byAtMost", desc := "(IIII)I" } : Jvm.MethodName) ({ cls := "SplitFaresModel", name := "byAtMost", desc := "(IIII)I" } : Jvm.MethodName)) ∈ sf_TB := sf_in7 117 rfl rfl
set_option maxRecDepth 20000 in
theorem sw_1558 : (Jvm.Cond.code ({ cls := "SplitFaresModel", name := "byAtMost", desc := "(IIII)I" } : Jvm.MethodName) prog_13_method_92_code (5 : Nat) (Option.some Jvm.ClassFile.FieldType.int)) ∈ sf_TB := sf_in7 118 rfl rfl
set_option maxRecDepth 20000 in
theorem sw_1559 : (Jvm.Cond.methodLink "SplitFaresModel" (385 : Nat) ({ cls := "SplitFaresModel", name := "laysBy", desc := "()V" } : Jvm.MethodName)) ∈ sf_TB := sf_in7 119 rfl rfl
set_option maxRecDepth 20000 in
theorem sw_1561 : (Jvm.Cond.instanceMethod ({ cls := "SplitFaresModel", name := "laysBy", desc := "()V" } : Jvm.MethodName)) ∈ sf_TB := sf_in7 121 rfl rfl
set_option maxRecDepth 20000 in
theorem sw_1562 : (Jvm.Cond.code ({ cls := "SplitFaresModel", name := "laysBy", desc := "()V" } : Jvm.MethodName) prog_13_method_91_code (5 : Nat) (Option.none : Option Jvm.ClassFile.FieldType)) ∈ sf_TB := sf_in7 122 rfl rfl
set_option maxRecDepth 20000 in
theorem sw_1563 : (Jvm.Cond.methodLink "SplitFaresLaw" (110 : Nat) ({ cls := "SplitFaresModel", name := "fewest", desc := "(III)I" } : Jvm.MethodName)) ∈ sf_TB := sf_in7 123 rfl rfl
set_option maxRecDepth 20000 in
theorem sw_1564 : (Jvm.Cond.instanceMethod ({ cls := "SplitFaresModel", name := "fewest", desc := "(III)I" } : Jvm.MethodName)) ∈ sf_TB := sf_in7 124 rfl rfl
set_option maxRecDepth 20000 in
theorem sw_1565 : (Jvm.Cond.selects "SplitFaresModel" ({ cls := "SplitFaresModel", name := "fewest", desc := "(III)I" } : Jvm.MethodName) ({ cls := "SplitFaresModel", name := "fewest", desc := "(III)I" } : Jvm.MethodName)) ∈ sf_TB := sf_in7 125 rfl rfl
set_option maxRecDepth 20000 in
theorem sw_1566 : (Jvm.Cond.code ({ cls := "SplitFaresModel", name := "fewest", desc := "(III)I" } : Jvm.MethodName) prog_13_method_93_code (5 : Nat) (Option.some Jvm.ClassFile.FieldType.int)) ∈ sf_TB := sf_in7 126 rfl rfl
set_option maxRecDepth 20000 in
theorem sw_1567 : (Jvm.Cond.methodLink "SplitFaresLaw" (114 : Nat) ({ cls := "SplitFaresModel", name := "ways", desc := "(III)I" } : Jvm.MethodName)) ∈ sf_TB := sf_in7 127 rfl rfl
set_option maxRecDepth 20000 in
theorem sw_1568 : (Jvm.Cond.instanceMethod ({ cls := "SplitFaresModel", name := "ways", desc := "(III)I" } : Jvm.MethodName)) ∈ sf_TB := sf_in7 128 rfl rfl
set_option maxRecDepth 20000 in
theorem sw_1569 : (Jvm.Cond.selects "SplitFaresModel" ({ cls := "SplitFaresModel", name := "ways", desc := "(III)I" } : Jvm.MethodName) ({ cls := "SplitFaresModel", name := "ways", desc := "(III)I" } : Jvm.MethodName)) ∈ sf_TB := sf_in7 129 rfl rfl
set_option maxRecDepth 20000 in
theorem sw_1570 : (Jvm.Cond.code ({ cls := "SplitFaresModel", name := "ways", desc := "(III)I" } : Jvm.MethodName) prog_13_method_94_code (6 : Nat) (Option.some Jvm.ClassFile.FieldType.int)) ∈ sf_TB := sf_in7 130 rfl rfl
set_option maxRecDepth 20000 in
theorem sw_1571 : (Jvm.Cond.methodLink "SplitFaresLaw" (118 : Nat) ({ cls := "SplitFaresModel", name := "thereAndBack", desc := "(IIII)I" } : Jvm.MethodName)) ∈ sf_TB := sf_in7 131 rfl rfl
set_option maxRecDepth 20000 in
theorem sw_1572 : (Jvm.Cond.instanceMethod ({ cls := "SplitFaresModel", name := "thereAndBack", desc := "(IIII)I" } : Jvm.MethodName)) ∈ sf_TB := sf_in7 132 rfl rfl
set_option maxRecDepth 20000 in
theorem sw_1573 : (Jvm.Cond.selects "SplitFaresModel" ({ cls := "SplitFaresModel", name := "thereAndBack", desc := "(IIII)I" } : Jvm.MethodName) ({ cls := "SplitFaresModel", name := "thereAndBack", desc := "(IIII)I" } : Jvm.MethodName)) ∈ sf_TB := sf_in7 133 rfl rfl
set_option maxRecDepth 20000 in
theorem sw_1574 : (Jvm.Cond.code ({ cls := "SplitFaresModel", name := "thereAndBack", desc := "(IIII)I" } : Jvm.MethodName) prog_13_method_99_code (10 : Nat) (Option.some Jvm.ClassFile.FieldType.int)) ∈ sf_TB := sf_in7 134 rfl rfl
set_option maxRecDepth 20000 in
theorem sw_1575 : (Jvm.Cond.methodLink "SplitFaresModel" (394 : Nat) ({ cls := "SplitFaresModel", name := "laysBoth", desc := "(II)V" } : Jvm.MethodName)) ∈ sf_TB := sf_in7 135 rfl rfl
set_option maxRecDepth 20000 in
theorem sw_1577 : (Jvm.Cond.instanceMethod ({ cls := "SplitFaresModel", name := "laysBoth", desc := "(II)V" } : Jvm.MethodName)) ∈ sf_TB := sf_in7 137 rfl rfl
set_option maxRecDepth 20000 in
theorem sw_1578 : (Jvm.Cond.code ({ cls := "SplitFaresModel", name := "laysBoth", desc := "(II)V" } : Jvm.MethodName) prog_13_method_95_code (6 : Nat) (Option.none : Option Jvm.ClassFile.FieldType)) ∈ sf_TB := sf_in7 138 rfl rfl
set_option maxRecDepth 20000 in
theorem sw_1579 : (Jvm.Cond.methodLink "SplitFaresModel" (397 : Nat) ({ cls := "SplitFaresModel", name := "between", desc := "(II)I" } : Jvm.MethodName)) ∈ sf_TB := sf_in7 139 rfl rfl
set_option maxRecDepth 20000 in
theorem sw_1580 : (Jvm.Cond.static ({ cls := "SplitFaresModel", name := "between", desc := "(II)I" } : Jvm.MethodName)) ∈ sf_TB := sf_in7 140 rfl rfl
set_option maxRecDepth 20000 in
theorem sw_1581 : (Jvm.Cond.code ({ cls := "SplitFaresModel", name := "between", desc := "(II)I" } : Jvm.MethodName) prog_13_method_96_code (4 : Nat) (Option.some Jvm.ClassFile.FieldType.int)) ∈ sf_TB := sf_in7 141 rfl rfl
set_option maxRecDepth 20000 in
theorem sw_1582 : (Jvm.Cond.methodLink "SplitFaresModel" (388 : Nat) ({ cls := "SplitFaresModel", name := "greater", desc := "(II)I" } : Jvm.MethodName)) ∈ sf_TB := sf_in7 142 rfl rfl
set_option maxRecDepth 20000 in
theorem sw_1583 : (Jvm.Cond.static ({ cls := "SplitFaresModel", name := "greater", desc := "(II)I" } : Jvm.MethodName)) ∈ sf_TB := sf_in7 143 rfl rfl
set_option maxRecDepth 20000 in
theorem sw_1584 : (Jvm.Cond.code ({ cls := "SplitFaresModel", name := "greater", desc := "(II)I" } : Jvm.MethodName) prog_13_method_3_code (2 : Nat) (Option.some Jvm.ClassFile.FieldType.int)) ∈ sf_TB := sf_in7 144 rfl rfl
set_option maxRecDepth 20000 in
theorem sw_1585 : (Jvm.Cond.methodLink "SplitFaresModel" (400 : Nat) ({ cls := "SplitFaresModel", name := "costsTogether", desc := "(IIII)I" } : Jvm.MethodName)) ∈ sf_TB := sf_in7 145 rfl rfl
set_option maxRecDepth 20000 in
theorem sw_1587 : (Jvm.Cond.instanceMethod ({ cls := "SplitFaresModel", name := "costsTogether", desc := "(IIII)I" } : Jvm.MethodName)) ∈ sf_TB := sf_in7 147 rfl rfl
set_option maxRecDepth 20000 in
theorem sw_1588 : (Jvm.Cond.code ({ cls := "SplitFaresModel", name := "costsTogether", desc := "(IIII)I" } : Jvm.MethodName) prog_13_method_98_code (10 : Nat) (Option.some Jvm.ClassFile.FieldType.int)) ∈ sf_TB := sf_in7 148 rfl rfl
set_option maxRecDepth 20000 in
theorem sw_1589 : (Jvm.Cond.methodLink "SplitFaresModel" (391 : Nat) ({ cls := "SplitFaresModel", name := "nextIn", desc := "(III)I" } : Jvm.MethodName)) ∈ sf_TB := sf_in7 149 rfl rfl
set_option maxRecDepth 20000 in
theorem sw_1590 : (Jvm.Cond.static ({ cls := "SplitFaresModel", name := "nextIn", desc := "(III)I" } : Jvm.MethodName)) ∈ sf_TB := sf_in7 150 rfl rfl
set_option maxRecDepth 20000 in
theorem sw_1591 : (Jvm.Cond.code ({ cls := "SplitFaresModel", name := "nextIn", desc := "(III)I" } : Jvm.MethodName) prog_13_method_97_code (5 : Nat) (Option.some Jvm.ClassFile.FieldType.int)) ∈ sf_TB := sf_in7 151 rfl rfl
set_option maxRecDepth 20000 in
theorem sw_1592 : (Jvm.Cond.methodLink "SplitFaresLaw" (122 : Nat) ({ cls := "SplitFaresModel", name := "saved", desc := "(III)I" } : Jvm.MethodName)) ∈ sf_TB := sf_in7 152 rfl rfl
set_option maxRecDepth 20000 in
theorem sw_1593 : (Jvm.Cond.instanceMethod ({ cls := "SplitFaresModel", name := "saved", desc := "(III)I" } : Jvm.MethodName)) ∈ sf_TB := sf_in7 153 rfl rfl
set_option maxRecDepth 20000 in
theorem sw_1594 : (Jvm.Cond.selects "SplitFaresModel" ({ cls := "SplitFaresModel", name := "saved", desc := "(III)I" } : Jvm.MethodName) ({ cls := "SplitFaresModel", name := "saved", desc := "(III)I" } : Jvm.MethodName)) ∈ sf_TB := sf_in7 154 rfl rfl
set_option maxRecDepth 20000 in
theorem sw_1595 : (Jvm.Cond.code ({ cls := "SplitFaresModel", name := "saved", desc := "(III)I" } : Jvm.MethodName) prog_13_method_101_code (4 : Nat) (Option.some Jvm.ClassFile.FieldType.int)) ∈ sf_TB := sf_in7 155 rfl rfl
set_option maxRecDepth 20000 in
theorem sw_1596 : (Jvm.Cond.methodLink "SplitFaresModel" (404 : Nat) ({ cls := "SplitFaresModel", name := "savedOf", desc := "(III)I" } : Jvm.MethodName)) ∈ sf_TB := sf_in7 156 rfl rfl
set_option maxRecDepth 20000 in
theorem sw_1598 : (Jvm.Cond.instanceMethod ({ cls := "SplitFaresModel", name := "savedOf", desc := "(III)I" } : Jvm.MethodName)) ∈ sf_TB := sf_in7 158 rfl rfl
set_option maxRecDepth 20000 in
theorem sw_1599 : (Jvm.Cond.code ({ cls := "SplitFaresModel", name := "savedOf", desc := "(III)I" } : Jvm.MethodName) prog_13_method_100_code (5 : Nat) (Option.some Jvm.ClassFile.FieldType.int)) ∈ sf_TB := sf_in7 159 rfl rfl
set_option maxRecDepth 20000 in
theorem sw_1600 : (Jvm.Cond.methodLink "SplitFaresLaw" (126 : Nat) ({ cls := "SplitFaresModel", name := "bestTrain", desc := "(II)I" } : Jvm.MethodName)) ∈ sf_TB := sf_in7 160 rfl rfl
set_option maxRecDepth 20000 in
theorem sw_1601 : (Jvm.Cond.instanceMethod ({ cls := "SplitFaresModel", name := "bestTrain", desc := "(II)I" } : Jvm.MethodName)) ∈ sf_TB := sf_in7 161 rfl rfl
set_option maxRecDepth 20000 in
theorem sw_1602 : (Jvm.Cond.selects "SplitFaresModel" ({ cls := "SplitFaresModel", name := "bestTrain", desc := "(II)I" } : Jvm.MethodName) ({ cls := "SplitFaresModel", name := "bestTrain", desc := "(II)I" } : Jvm.MethodName)) ∈ sf_TB := sf_in7 162 rfl rfl
set_option maxRecDepth 20000 in
theorem sw_1603 : (Jvm.Cond.code ({ cls := "SplitFaresModel", name := "bestTrain", desc := "(II)I" } : Jvm.MethodName) prog_13_method_102_code (7 : Nat) (Option.some Jvm.ClassFile.FieldType.int)) ∈ sf_TB := sf_in7 163 rfl rfl
set_option maxRecDepth 20000 in
theorem sw_1604 : (Jvm.Cond.methodLink "SplitFaresLaw" (130 : Nat) ({ cls := "SplitFaresModel", name := "mostSaved", desc := "(II)I" } : Jvm.MethodName)) ∈ sf_TB := sf_in7 164 rfl rfl
set_option maxRecDepth 20000 in
theorem sw_1605 : (Jvm.Cond.instanceMethod ({ cls := "SplitFaresModel", name := "mostSaved", desc := "(II)I" } : Jvm.MethodName)) ∈ sf_TB := sf_in7 165 rfl rfl
set_option maxRecDepth 20000 in
theorem sw_1606 : (Jvm.Cond.selects "SplitFaresModel" ({ cls := "SplitFaresModel", name := "mostSaved", desc := "(II)I" } : Jvm.MethodName) ({ cls := "SplitFaresModel", name := "mostSaved", desc := "(II)I" } : Jvm.MethodName)) ∈ sf_TB := sf_in7 166 rfl rfl
set_option maxRecDepth 20000 in
theorem sw_1607 : (Jvm.Cond.code ({ cls := "SplitFaresModel", name := "mostSaved", desc := "(II)I" } : Jvm.MethodName) prog_13_method_103_code (9 : Nat) (Option.some Jvm.ClassFile.FieldType.int)) ∈ sf_TB := sf_in7 167 rfl rfl
set_option maxRecDepth 20000 in
theorem sw_1608 : (Jvm.Cond.methodLink "SplitFaresLaw" (134 : Nat) ({ cls := "SplitFaresModel", name := "purseEnd", desc := "()I" } : Jvm.MethodName)) ∈ sf_TB := sf_in7 168 rfl rfl
set_option maxRecDepth 20000 in
theorem sw_1609 : (Jvm.Cond.instanceMethod ({ cls := "SplitFaresModel", name := "purseEnd", desc := "()I" } : Jvm.MethodName)) ∈ sf_TB := sf_in7 169 rfl rfl
set_option maxRecDepth 20000 in
theorem sw_1610 : (Jvm.Cond.selects "SplitFaresModel" ({ cls := "SplitFaresModel", name := "purseEnd", desc := "()I" } : Jvm.MethodName) ({ cls := "SplitFaresModel", name := "purseEnd", desc := "()I" } : Jvm.MethodName)) ∈ sf_TB := sf_in7 170 rfl rfl
set_option maxRecDepth 20000 in
theorem sw_1611 : (Jvm.Cond.code ({ cls := "SplitFaresModel", name := "purseEnd", desc := "()I" } : Jvm.MethodName) prog_13_method_104_code (5 : Nat) (Option.some Jvm.ClassFile.FieldType.int)) ∈ sf_TB := sf_in7 171 rfl rfl
set_option maxRecDepth 20000 in
theorem sw_1612 : (Jvm.Cond.methodLink "SplitFaresLaw" (98 : Nat) ({ cls := "SplitFaresModel", name := "undo", desc := "()I" } : Jvm.MethodName)) ∈ sf_TB := sf_in7 172 rfl rfl
set_option maxRecDepth 20000 in
theorem sw_1613 : (Jvm.Cond.instanceMethod ({ cls := "SplitFaresModel", name := "undo", desc := "()I" } : Jvm.MethodName)) ∈ sf_TB := sf_in7 173 rfl rfl
set_option maxRecDepth 20000 in
theorem sw_1614 : (Jvm.Cond.selects "SplitFaresModel" ({ cls := "SplitFaresModel", name := "undo", desc := "()I" } : Jvm.MethodName) ({ cls := "SplitFaresModel", name := "undo", desc := "()I" } : Jvm.MethodName)) ∈ sf_TB := sf_in7 174 rfl rfl
set_option maxRecDepth 20000 in
theorem sw_1615 : (Jvm.Cond.code ({ cls := "SplitFaresModel", name := "undo", desc := "()I" } : Jvm.MethodName) prog_13_method_106_code (3 : Nat) (Option.some Jvm.ClassFile.FieldType.int)) ∈ sf_TB := sf_in7 175 rfl rfl
set_option maxRecDepth 20000 in
theorem sw_1616 : (Jvm.Cond.methodLink "SplitFaresLaw" (82 : Nat) ({ cls := "SplitFaresModel", name := "buy", desc := "(III)I" } : Jvm.MethodName)) ∈ sf_TB := sf_in7 176 rfl rfl
set_option maxRecDepth 20000 in
theorem sw_1617 : (Jvm.Cond.instanceMethod ({ cls := "SplitFaresModel", name := "buy", desc := "(III)I" } : Jvm.MethodName)) ∈ sf_TB := sf_in7 177 rfl rfl
set_option maxRecDepth 20000 in
theorem sw_1618 : (Jvm.Cond.selects "SplitFaresModel" ({ cls := "SplitFaresModel", name := "buy", desc := "(III)I" } : Jvm.MethodName) ({ cls := "SplitFaresModel", name := "buy", desc := "(III)I" } : Jvm.MethodName)) ∈ sf_TB := sf_in7 178 rfl rfl
set_option maxRecDepth 20000 in
theorem sw_1619 : (Jvm.Cond.code ({ cls := "SplitFaresModel", name := "buy", desc := "(III)I" } : Jvm.MethodName) prog_13_method_118_code (4 : Nat) (Option.some Jvm.ClassFile.FieldType.int)) ∈ sf_TB := sf_in7 179 rfl rfl
set_option maxRecDepth 20000 in
theorem sw_1620 : (Jvm.Cond.methodLink "SplitFaresModel" (432 : Nat) ({ cls := "SplitFaresModel", name := "buysKept", desc := "(III)I" } : Jvm.MethodName)) ∈ sf_TB := sf_in7 180 rfl rfl
set_option maxRecDepth 20000 in
theorem sw_1622 : (Jvm.Cond.instanceMethod ({ cls := "SplitFaresModel", name := "buysKept", desc := "(III)I" } : Jvm.MethodName)) ∈ sf_TB := sf_in7 182 rfl rfl
set_option maxRecDepth 20000 in
theorem sw_1623 : (Jvm.Cond.code ({ cls := "SplitFaresModel", name := "buysKept", desc := "(III)I" } : Jvm.MethodName) prog_13_method_114_code (4 : Nat) (Option.some Jvm.ClassFile.FieldType.int)) ∈ sf_TB := sf_in7 183 rfl rfl
set_option maxRecDepth 20000 in
theorem sw_1624 : (Jvm.Cond.methodLink "SplitFaresModel" (413 : Nat) ({ cls := "SplitFaresModel", name := "canBuy", desc := "(III)Z" } : Jvm.MethodName)) ∈ sf_TB := sf_in7 184 rfl rfl
set_option maxRecDepth 20000 in
theorem sw_1626 : (Jvm.Cond.instanceMethod ({ cls := "SplitFaresModel", name := "canBuy", desc := "(III)Z" } : Jvm.MethodName)) ∈ sf_TB := sf_in7 186 rfl rfl
set_option maxRecDepth 20000 in
theorem sw_1627 : (Jvm.Cond.code ({ cls := "SplitFaresModel", name := "canBuy", desc := "(III)Z" } : Jvm.MethodName) prog_13_method_108_code (4 : Nat) (Option.some Jvm.ClassFile.FieldType.boolean)) ∈ sf_TB := sf_in7 187 rfl rfl
set_option maxRecDepth 20000 in
theorem sw_1628 : (Jvm.Cond.methodLink "SplitFaresModel" (416 : Nat) ({ cls := "SplitFaresModel", name := "keeps", desc := "(I)V" } : Jvm.MethodName)) ∈ sf_TB := sf_in7 188 rfl rfl
set_option maxRecDepth 20000 in
theorem sw_1630 : (Jvm.Cond.instanceMethod ({ cls := "SplitFaresModel", name := "keeps", desc := "(I)V" } : Jvm.MethodName)) ∈ sf_TB := sf_in7 190 rfl rfl
set_option maxRecDepth 20000 in
theorem sw_1631 : (Jvm.Cond.code ({ cls := "SplitFaresModel", name := "keeps", desc := "(I)V" } : Jvm.MethodName) prog_13_method_105_code (4 : Nat) (Option.none : Option Jvm.ClassFile.FieldType)) ∈ sf_TB := sf_in7 191 rfl rfl
set_option maxRecDepth 20000 in
theorem sw_1632 : (Jvm.Cond.methodLink "SplitFaresModel" (419 : Nat) ({ cls := "SplitFaresModel", name := "buys", desc := "(III)V" } : Jvm.MethodName)) ∈ sf_TB := sf_in7 192 rfl rfl
set_option maxRecDepth 20000 in
theorem sw_1634 : (Jvm.Cond.instanceMethod ({ cls := "SplitFaresModel", name := "buys", desc := "(III)V" } : Jvm.MethodName)) ∈ sf_TB := sf_in7 194 rfl rfl
set_option maxRecDepth 20000 in
theorem sw_1635 : (Jvm.Cond.code ({ cls := "SplitFaresModel", name := "buys", desc := "(III)V" } : Jvm.MethodName) prog_13_method_109_code (4 : Nat) (Option.none : Option Jvm.ClassFile.FieldType)) ∈ sf_TB := sf_in7 195 rfl rfl
set_option maxRecDepth 20000 in
theorem sw_1636 : (Jvm.Cond.methodLink "SplitFaresModel" (435 : Nat) ({ cls := "SplitFaresModel", name := "goodOr", desc := "(I)I" } : Jvm.MethodName)) ∈ sf_TB := sf_in7 196 rfl rfl
set_option maxRecDepth 20000 in
theorem sw_1638 : (Jvm.Cond.instanceMethod ({ cls := "SplitFaresModel", name := "goodOr", desc := "(I)I" } : Jvm.MethodName)) ∈ sf_TB := sf_in7 198 rfl rfl
set_option maxRecDepth 20000 in
theorem sw_1639 : (Jvm.Cond.code ({ cls := "SplitFaresModel", name := "goodOr", desc := "(I)I" } : Jvm.MethodName) prog_13_method_107_code (2 : Nat) (Option.some Jvm.ClassFile.FieldType.int)) ∈ sf_TB := sf_in7 199 rfl rfl
set_option maxRecDepth 20000 in
theorem sw_1640 : (Jvm.Cond.methodLink "SplitFaresLaw" (86 : Nat) ({ cls := "SplitFaresModel", name := "ride", desc := "(II)I" } : Jvm.MethodName)) ∈ sf_TB := sf_in7 200 rfl rfl
set_option maxRecDepth 20000 in
theorem sw_1641 : (Jvm.Cond.instanceMethod ({ cls := "SplitFaresModel", name := "ride", desc := "(II)I" } : Jvm.MethodName)) ∈ sf_TB := sf_in7 201 rfl rfl
set_option maxRecDepth 20000 in
theorem sw_1642 : (Jvm.Cond.selects "SplitFaresModel" ({ cls := "SplitFaresModel", name := "ride", desc := "(II)I" } : Jvm.MethodName) ({ cls := "SplitFaresModel", name := "ride", desc := "(II)I" } : Jvm.MethodName)) ∈ sf_TB := sf_in7 202 rfl rfl
set_option maxRecDepth 20000 in
theorem sw_1643 : (Jvm.Cond.code ({ cls := "SplitFaresModel", name := "ride", desc := "(II)I" } : Jvm.MethodName) prog_13_method_119_code (3 : Nat) (Option.some Jvm.ClassFile.FieldType.int)) ∈ sf_TB := sf_in7 203 rfl rfl
set_option maxRecDepth 20000 in
theorem sw_1644 : (Jvm.Cond.methodLink "SplitFaresModel" (438 : Nat) ({ cls := "SplitFaresModel", name := "ridesKept", desc := "(II)I" } : Jvm.MethodName)) ∈ sf_TB := sf_in7 204 rfl rfl
set_option maxRecDepth 20000 in
theorem sw_1646 : (Jvm.Cond.instanceMethod ({ cls := "SplitFaresModel", name := "ridesKept", desc := "(II)I" } : Jvm.MethodName)) ∈ sf_TB := sf_in7 206 rfl rfl
set_option maxRecDepth 20000 in
theorem sw_1647 : (Jvm.Cond.code ({ cls := "SplitFaresModel", name := "ridesKept", desc := "(II)I" } : Jvm.MethodName) prog_13_method_115_code (3 : Nat) (Option.some Jvm.ClassFile.FieldType.int)) ∈ sf_TB := sf_in7 207 rfl rfl
set_option maxRecDepth 20000 in
theorem sw_1648 : (Jvm.Cond.methodLink "SplitFaresModel" (422 : Nat) ({ cls := "SplitFaresModel", name := "canRide", desc := "(II)Z" } : Jvm.MethodName)) ∈ sf_TB := sf_in7 208 rfl rfl
set_option maxRecDepth 20000 in
theorem sw_1650 : (Jvm.Cond.instanceMethod ({ cls := "SplitFaresModel", name := "canRide", desc := "(II)Z" } : Jvm.MethodName)) ∈ sf_TB := sf_in7 210 rfl rfl
set_option maxRecDepth 20000 in
theorem sw_1651 : (Jvm.Cond.code ({ cls := "SplitFaresModel", name := "canRide", desc := "(II)Z" } : Jvm.MethodName) prog_13_method_110_code (3 : Nat) (Option.some Jvm.ClassFile.FieldType.boolean)) ∈ sf_TB := sf_in7 211 rfl rfl
set_option maxRecDepth 20000 in
theorem sw_1652 : (Jvm.Cond.methodLink "SplitFaresModel" (407 : Nat) ({ cls := "SplitFaresModel", name := "laysHeld", desc := "(I)V" } : Jvm.MethodName)) ∈ sf_TB := sf_in7 212 rfl rfl
set_option maxRecDepth 20000 in
theorem sw_1654 : (Jvm.Cond.instanceMethod ({ cls := "SplitFaresModel", name := "laysHeld", desc := "(I)V" } : Jvm.MethodName)) ∈ sf_TB := sf_in7 214 rfl rfl
set_option maxRecDepth 20000 in
theorem sw_1655 : (Jvm.Cond.code ({ cls := "SplitFaresModel", name := "laysHeld", desc := "(I)V" } : Jvm.MethodName) prog_13_method_82_code (4 : Nat) (Option.none : Option Jvm.ClassFile.FieldType)) ∈ sf_TB := sf_in7 215 rfl rfl
set_option maxRecDepth 20000 in
theorem sw_1656 : (Jvm.Cond.methodLink "SplitFaresModel" (349 : Nat) ({ cls := "SplitFaresModel", name := "sortFor", desc := "(III)I" } : Jvm.MethodName)) ∈ sf_TB := sf_in7 216 rfl rfl
set_option maxRecDepth 20000 in
theorem sw_1658 : (Jvm.Cond.instanceMethod ({ cls := "SplitFaresModel", name := "sortFor", desc := "(III)I" } : Jvm.MethodName)) ∈ sf_TB := sf_in7 218 rfl rfl
set_option maxRecDepth 20000 in
theorem sw_1659 : (Jvm.Cond.code ({ cls := "SplitFaresModel", name := "sortFor", desc := "(III)I" } : Jvm.MethodName) prog_13_method_83_code (4 : Nat) (Option.some Jvm.ClassFile.FieldType.int)) ∈ sf_TB := sf_in7 219 rfl rfl
set_option maxRecDepth 20000 in
theorem sw_1660 : (Jvm.Cond.methodLink "SplitFaresModel" (352 : Nat) ({ cls := "SplitFaresModel", name := "ticketBarred", desc := "(IIII)Z" } : Jvm.MethodName)) ∈ sf_TB := sf_in7 220 rfl rfl
set_option maxRecDepth 20000 in
theorem sw_1662 : (Jvm.Cond.instanceMethod ({ cls := "SplitFaresModel", name := "ticketBarred", desc := "(IIII)Z" } : Jvm.MethodName)) ∈ sf_TB := sf_in7 222 rfl rfl
set_option maxRecDepth 20000 in
theorem sw_1663 : (Jvm.Cond.code ({ cls := "SplitFaresModel", name := "ticketBarred", desc := "(IIII)Z" } : Jvm.MethodName) prog_13_method_76_code (5 : Nat) (Option.some Jvm.ClassFile.FieldType.boolean)) ∈ sf_TB := sf_in7 223 rfl rfl
set_option maxRecDepth 20000 in
theorem sw_1664 : (Jvm.Cond.methodLink "SplitFaresModel" (425 : Nat) ({ cls := "SplitFaresModel", name := "rides", desc := "(I)I" } : Jvm.MethodName)) ∈ sf_TB := sf_in7 224 rfl rfl
set_option maxRecDepth 20000 in
theorem sw_1666 : (Jvm.Cond.instanceMethod ({ cls := "SplitFaresModel", name := "rides", desc := "(I)I" } : Jvm.MethodName)) ∈ sf_TB := sf_in7 226 rfl rfl
set_option maxRecDepth 20000 in
theorem sw_1667 : (Jvm.Cond.code ({ cls := "SplitFaresModel", name := "rides", desc := "(I)I" } : Jvm.MethodName) prog_13_method_111_code (5 : Nat) (Option.some Jvm.ClassFile.FieldType.int)) ∈ sf_TB := sf_in7 227 rfl rfl
set_option maxRecDepth 20000 in
theorem sw_1668 : (Jvm.Cond.methodLink "SplitFaresModel" (410 : Nat) ({ cls := "SplitFaresModel", name := "uses", desc := "(III)V" } : Jvm.MethodName)) ∈ sf_TB := sf_in7 228 rfl rfl
set_option maxRecDepth 20000 in
theorem sw_1670 : (Jvm.Cond.instanceMethod ({ cls := "SplitFaresModel", name := "uses", desc := "(III)V" } : Jvm.MethodName)) ∈ sf_TB := sf_in7 230 rfl rfl
set_option maxRecDepth 20000 in
theorem sw_1671 : (Jvm.Cond.code ({ cls := "SplitFaresModel", name := "uses", desc := "(III)V" } : Jvm.MethodName) prog_13_method_112_code (6 : Nat) (Option.none : Option Jvm.ClassFile.FieldType)) ∈ sf_TB := sf_in7 231 rfl rfl
set_option maxRecDepth 20000 in
theorem sw_1672 : (Jvm.Cond.methodLink "SplitFaresLaw" (90 : Nat) ({ cls := "SplitFaresModel", name := "save", desc := "(I)I" } : Jvm.MethodName)) ∈ sf_TB := sf_in7 232 rfl rfl
set_option maxRecDepth 20000 in
theorem sw_1673 : (Jvm.Cond.instanceMethod ({ cls := "SplitFaresModel", name := "save", desc := "(I)I" } : Jvm.MethodName)) ∈ sf_TB := sf_in7 233 rfl rfl
set_option maxRecDepth 20000 in
theorem sw_1674 : (Jvm.Cond.selects "SplitFaresModel" ({ cls := "SplitFaresModel", name := "save", desc := "(I)I" } : Jvm.MethodName) ({ cls := "SplitFaresModel", name := "save", desc := "(I)I" } : Jvm.MethodName)) ∈ sf_TB := sf_in7 234 rfl rfl
set_option maxRecDepth 20000 in
theorem sw_1675 : (Jvm.Cond.code ({ cls := "SplitFaresModel", name := "save", desc := "(I)I" } : Jvm.MethodName) prog_13_method_120_code (2 : Nat) (Option.some Jvm.ClassFile.FieldType.int)) ∈ sf_TB := sf_in7 235 rfl rfl
set_option maxRecDepth 20000 in
theorem sw_1676 : (Jvm.Cond.methodLink "SplitFaresModel" (441 : Nat) ({ cls := "SplitFaresModel", name := "savesKept", desc := "(I)I" } : Jvm.MethodName)) ∈ sf_TB := sf_in7 236 rfl rfl
set_option maxRecDepth 20000 in
theorem sw_1678 : (Jvm.Cond.instanceMethod ({ cls := "SplitFaresModel", name := "savesKept", desc := "(I)I" } : Jvm.MethodName)) ∈ sf_TB := sf_in7 238 rfl rfl
set_option maxRecDepth 20000 in
theorem sw_1679 : (Jvm.Cond.code ({ cls := "SplitFaresModel", name := "savesKept", desc := "(I)I" } : Jvm.MethodName) prog_13_method_116_code (2 : Nat) (Option.some Jvm.ClassFile.FieldType.int)) ∈ sf_TB := sf_in7 239 rfl rfl
set_option maxRecDepth 20000 in
theorem sw_1680 : (Jvm.Cond.constant "SplitFaresModel" (428 : Nat) (99999 : Int32)) ∈ sf_TB := sf_in8 0 rfl rfl
set_option maxRecDepth 20000 in
theorem sw_1681 : (Jvm.Cond.methodLink "SplitFaresLaw" (94 : Nat) ({ cls := "SplitFaresModel", name := "pass", desc := "()I" } : Jvm.MethodName)) ∈ sf_TB := sf_in8 1 rfl rfl
set_option maxRecDepth 20000 in
theorem sw_1682 : (Jvm.Cond.instanceMethod ({ cls := "SplitFaresModel", name := "pass", desc := "()I" } : Jvm.MethodName)) ∈ sf_TB := sf_in8 2 rfl rfl
set_option maxRecDepth 20000 in
theorem sw_1683 : (Jvm.Cond.selects "SplitFaresModel" ({ cls := "SplitFaresModel", name := "pass", desc := "()I" } : Jvm.MethodName) ({ cls := "SplitFaresModel", name := "pass", desc := "()I" } : Jvm.MethodName)) ∈ sf_TB := sf_in8 3 rfl rfl
set_option maxRecDepth 20000 in
theorem sw_1684 : (Jvm.Cond.code ({ cls := "SplitFaresModel", name := "pass", desc := "()I" } : Jvm.MethodName) prog_13_method_121_code (1 : Nat) (Option.some Jvm.ClassFile.FieldType.int)) ∈ sf_TB := sf_in8 4 rfl rfl
set_option maxRecDepth 20000 in
theorem sw_1685 : (Jvm.Cond.methodLink "SplitFaresModel" (444 : Nat) ({ cls := "SplitFaresModel", name := "passesKept", desc := "()I" } : Jvm.MethodName)) ∈ sf_TB := sf_in8 5 rfl rfl
set_option maxRecDepth 20000 in
theorem sw_1687 : (Jvm.Cond.instanceMethod ({ cls := "SplitFaresModel", name := "passesKept", desc := "()I" } : Jvm.MethodName)) ∈ sf_TB := sf_in8 7 rfl rfl
set_option maxRecDepth 20000 in
theorem sw_1688 : (Jvm.Cond.code ({ cls := "SplitFaresModel", name := "passesKept", desc := "()I" } : Jvm.MethodName) prog_13_method_117_code (1 : Nat) (Option.some Jvm.ClassFile.FieldType.int)) ∈ sf_TB := sf_in8 8 rfl rfl
set_option maxRecDepth 20000 in
theorem sw_1689 : (Jvm.Cond.methodLink "SplitFaresModel" (429 : Nat) ({ cls := "SplitFaresModel", name := "dayPasses", desc := "()I" } : Jvm.MethodName)) ∈ sf_TB := sf_in8 9 rfl rfl
set_option maxRecDepth 20000 in
theorem sw_1691 : (Jvm.Cond.instanceMethod ({ cls := "SplitFaresModel", name := "dayPasses", desc := "()I" } : Jvm.MethodName)) ∈ sf_TB := sf_in8 11 rfl rfl
set_option maxRecDepth 20000 in
theorem sw_1692 : (Jvm.Cond.code ({ cls := "SplitFaresModel", name := "dayPasses", desc := "()I" } : Jvm.MethodName) prog_13_method_113_code (3 : Nat) (Option.some Jvm.ClassFile.FieldType.int)) ∈ sf_TB := sf_in8 12 rfl rfl
set_option maxRecDepth 20000 in
theorem sw_1693 : (Jvm.Cond.methodLink "SplitFaresLaw" (138 : Nat) ({ cls := "SplitFaresModel", name := "used", desc := "(III)I" } : Jvm.MethodName)) ∈ sf_TB := sf_in8 13 rfl rfl
set_option maxRecDepth 20000 in
theorem sw_1694 : (Jvm.Cond.instanceMethod ({ cls := "SplitFaresModel", name := "used", desc := "(III)I" } : Jvm.MethodName)) ∈ sf_TB := sf_in8 14 rfl rfl
set_option maxRecDepth 20000 in
theorem sw_1695 : (Jvm.Cond.selects "SplitFaresModel" ({ cls := "SplitFaresModel", name := "used", desc := "(III)I" } : Jvm.MethodName) ({ cls := "SplitFaresModel", name := "used", desc := "(III)I" } : Jvm.MethodName)) ∈ sf_TB := sf_in8 15 rfl rfl
set_option maxRecDepth 20000 in
theorem sw_1696 : (Jvm.Cond.code ({ cls := "SplitFaresModel", name := "used", desc := "(III)I" } : Jvm.MethodName) prog_13_method_122_code (4 : Nat) (Option.some Jvm.ClassFile.FieldType.int)) ∈ sf_TB := sf_in8 16 rfl rfl
set_option maxRecDepth 20000 in
theorem sw_1697 : (Jvm.Cond.methodLink "SplitFaresLaw" (142 : Nat) ({ cls := "SplitFaresModel", name := "told", desc := "(II)I" } : Jvm.MethodName)) ∈ sf_TB := sf_in8 17 rfl rfl
set_option maxRecDepth 20000 in
theorem sw_1698 : (Jvm.Cond.instanceMethod ({ cls := "SplitFaresModel", name := "told", desc := "(II)I" } : Jvm.MethodName)) ∈ sf_TB := sf_in8 18 rfl rfl
set_option maxRecDepth 20000 in
theorem sw_1699 : (Jvm.Cond.selects "SplitFaresModel" ({ cls := "SplitFaresModel", name := "told", desc := "(II)I" } : Jvm.MethodName) ({ cls := "SplitFaresModel", name := "told", desc := "(II)I" } : Jvm.MethodName)) ∈ sf_TB := sf_in8 19 rfl rfl
set_option maxRecDepth 20000 in
theorem sw_1700 : (Jvm.Cond.code ({ cls := "SplitFaresModel", name := "told", desc := "(II)I" } : Jvm.MethodName) prog_13_method_123_code (4 : Nat) (Option.some Jvm.ClassFile.FieldType.int)) ∈ sf_TB := sf_in8 20 rfl rfl
set_option maxRecDepth 20000 in
theorem sw_1701 : (Jvm.Cond.methodLink "SplitFaresLaw" (146 : Nat) ({ cls := "SplitFaresModel", name := "forget", desc := "()I" } : Jvm.MethodName)) ∈ sf_TB := sf_in8 21 rfl rfl
set_option maxRecDepth 20000 in
theorem sw_1702 : (Jvm.Cond.instanceMethod ({ cls := "SplitFaresModel", name := "forget", desc := "()I" } : Jvm.MethodName)) ∈ sf_TB := sf_in8 22 rfl rfl
set_option maxRecDepth 20000 in
theorem sw_1703 : (Jvm.Cond.selects "SplitFaresModel" ({ cls := "SplitFaresModel", name := "forget", desc := "()I" } : Jvm.MethodName) ({ cls := "SplitFaresModel", name := "forget", desc := "()I" } : Jvm.MethodName)) ∈ sf_TB := sf_in8 23 rfl rfl
set_option maxRecDepth 20000 in
theorem sw_1704 : (Jvm.Cond.code ({ cls := "SplitFaresModel", name := "forget", desc := "()I" } : Jvm.MethodName) prog_13_method_124_code (2 : Nat) (Option.some Jvm.ClassFile.FieldType.int)) ∈ sf_TB := sf_in8 24 rfl rfl
set_option maxRecDepth 20000 in
theorem sw_1705 : (Jvm.Cond.methodLink "SplitFaresLaw" (150 : Nat) ({ cls := "SplitFaresModel", name := "canBe", desc := "()I" } : Jvm.MethodName)) ∈ sf_TB := sf_in8 25 rfl rfl
set_option maxRecDepth 20000 in
theorem sw_1706 : (Jvm.Cond.instanceMethod ({ cls := "SplitFaresModel", name := "canBe", desc := "()I" } : Jvm.MethodName)) ∈ sf_TB := sf_in8 26 rfl rfl
set_option maxRecDepth 20000 in
theorem sw_1707 : (Jvm.Cond.selects "SplitFaresModel" ({ cls := "SplitFaresModel", name := "canBe", desc := "()I" } : Jvm.MethodName) ({ cls := "SplitFaresModel", name := "canBe", desc := "()I" } : Jvm.MethodName)) ∈ sf_TB := sf_in8 27 rfl rfl
set_option maxRecDepth 20000 in
theorem sw_1708 : (Jvm.Cond.code ({ cls := "SplitFaresModel", name := "canBe", desc := "()I" } : Jvm.MethodName) prog_13_method_127_code (3 : Nat) (Option.some Jvm.ClassFile.FieldType.int)) ∈ sf_TB := sf_in8 28 rfl rfl
set_option maxRecDepth 20000 in
theorem sw_1709 : (Jvm.Cond.methodLink "SplitFaresModel" (447 : Nat) ({ cls := "SplitFaresModel", name := "laysFares", desc := "()V" } : Jvm.MethodName)) ∈ sf_TB := sf_in8 29 rfl rfl
set_option maxRecDepth 20000 in
theorem sw_1711 : (Jvm.Cond.instanceMethod ({ cls := "SplitFaresModel", name := "laysFares", desc := "()V" } : Jvm.MethodName)) ∈ sf_TB := sf_in8 31 rfl rfl
set_option maxRecDepth 20000 in
theorem sw_1712 : (Jvm.Cond.code ({ cls := "SplitFaresModel", name := "laysFares", desc := "()V" } : Jvm.MethodName) prog_13_method_125_code (3 : Nat) (Option.none : Option Jvm.ClassFile.FieldType)) ∈ sf_TB := sf_in8 32 rfl rfl
set_option maxRecDepth 20000 in
theorem sw_1713 : (Jvm.Cond.methodLink "SplitFaresModel" (450 : Nat) ({ cls := "SplitFaresModel", name := "isSo", desc := "(I)Z" } : Jvm.MethodName)) ∈ sf_TB := sf_in8 33 rfl rfl
set_option maxRecDepth 20000 in
theorem sw_1715 : (Jvm.Cond.instanceMethod ({ cls := "SplitFaresModel", name := "isSo", desc := "(I)Z" } : Jvm.MethodName)) ∈ sf_TB := sf_in8 35 rfl rfl
set_option maxRecDepth 20000 in
theorem sw_1716 : (Jvm.Cond.code ({ cls := "SplitFaresModel", name := "isSo", desc := "(I)Z" } : Jvm.MethodName) prog_13_method_126_code (4 : Nat) (Option.some Jvm.ClassFile.FieldType.boolean)) ∈ sf_TB := sf_in8 36 rfl rfl
set_option maxRecDepth 20000 in
theorem sw_1717 : (Jvm.Cond.methodLink "SplitFaresLaw" (154 : Nat) ({ cls := "SplitFaresModel", name := "ask", desc := "(I)I" } : Jvm.MethodName)) ∈ sf_TB := sf_in8 37 rfl rfl
set_option maxRecDepth 20000 in
theorem sw_1718 : (Jvm.Cond.instanceMethod ({ cls := "SplitFaresModel", name := "ask", desc := "(I)I" } : Jvm.MethodName)) ∈ sf_TB := sf_in8 38 rfl rfl
set_option maxRecDepth 20000 in
theorem sw_1719 : (Jvm.Cond.selects "SplitFaresModel" ({ cls := "SplitFaresModel", name := "ask", desc := "(I)I" } : Jvm.MethodName) ({ cls := "SplitFaresModel", name := "ask", desc := "(I)I" } : Jvm.MethodName)) ∈ sf_TB := sf_in8 39 rfl rfl
set_option maxRecDepth 20000 in
theorem sw_1720 : (Jvm.Cond.code ({ cls := "SplitFaresModel", name := "ask", desc := "(I)I" } : Jvm.MethodName) prog_13_method_129_code (7 : Nat) (Option.some Jvm.ClassFile.FieldType.int)) ∈ sf_TB := sf_in8 40 rfl rfl
set_option maxRecDepth 20000 in
theorem sw_1721 : (Jvm.Cond.methodLink "SplitFaresModel" (453 : Nat) ({ cls := "SplitFaresModel", name := "canBe", desc := "()I" } : Jvm.MethodName)) ∈ sf_TB := sf_in8 41 rfl rfl
set_option maxRecDepth 20000 in
theorem sw_1722 : (Jvm.Cond.methodLink "SplitFaresModel" (456 : Nat) ({ cls := "SplitFaresModel", name := "mostAlike", desc := "(II)I" } : Jvm.MethodName)) ∈ sf_TB := sf_in8 42 rfl rfl
set_option maxRecDepth 20000 in
theorem sw_1724 : (Jvm.Cond.instanceMethod ({ cls := "SplitFaresModel", name := "mostAlike", desc := "(II)I" } : Jvm.MethodName)) ∈ sf_TB := sf_in8 44 rfl rfl
set_option maxRecDepth 20000 in
theorem sw_1725 : (Jvm.Cond.code ({ cls := "SplitFaresModel", name := "mostAlike", desc := "(II)I" } : Jvm.MethodName) prog_13_method_128_code (7 : Nat) (Option.some Jvm.ClassFile.FieldType.int)) ∈ sf_TB := sf_in8 45 rfl rfl
set_option maxRecDepth 20000 in
theorem sw_1726 : (Jvm.Cond.methodLink "SplitFaresLaw" (163 : Nat) ({ cls := "SplitFaresModel", name := "compare", desc := "(III)I" } : Jvm.MethodName)) ∈ sf_TB := sf_in8 46 rfl rfl
set_option maxRecDepth 20000 in
theorem sw_1727 : (Jvm.Cond.instanceMethod ({ cls := "SplitFaresModel", name := "compare", desc := "(III)I" } : Jvm.MethodName)) ∈ sf_TB := sf_in8 47 rfl rfl
set_option maxRecDepth 20000 in
theorem sw_1728 : (Jvm.Cond.selects "SplitFaresModel" ({ cls := "SplitFaresModel", name := "compare", desc := "(III)I" } : Jvm.MethodName) ({ cls := "SplitFaresModel", name := "compare", desc := "(III)I" } : Jvm.MethodName)) ∈ sf_TB := sf_in8 48 rfl rfl
set_option maxRecDepth 20000 in
theorem sw_1729 : (Jvm.Cond.code ({ cls := "SplitFaresModel", name := "compare", desc := "(III)I" } : Jvm.MethodName) prog_13_method_130_code (6 : Nat) (Option.some Jvm.ClassFile.FieldType.int)) ∈ sf_TB := sf_in8 49 rfl rfl
set_option maxRecDepth 20000 in
theorem sw_1730 : (Jvm.Cond.methodLink "SplitFaresLaw" (159 : Nat) ({ cls := "SplitFaresModel", name := "few", desc := "(II)J" } : Jvm.MethodName)) ∈ sf_TB := sf_in8 50 rfl rfl
set_option maxRecDepth 20000 in
theorem sw_1731 : (Jvm.Cond.instanceMethod ({ cls := "SplitFaresModel", name := "few", desc := "(II)J" } : Jvm.MethodName)) ∈ sf_TB := sf_in8 51 rfl rfl
set_option maxRecDepth 20000 in
theorem sw_1732 : (Jvm.Cond.selects "SplitFaresModel" ({ cls := "SplitFaresModel", name := "few", desc := "(II)J" } : Jvm.MethodName) ({ cls := "SplitFaresModel", name := "few", desc := "(II)J" } : Jvm.MethodName)) ∈ sf_TB := sf_in8 52 rfl rfl
set_option maxRecDepth 20000 in
theorem sw_1733 : (Jvm.Cond.code ({ cls := "SplitFaresModel", name := "few", desc := "(II)J" } : Jvm.MethodName) prog_13_method_131_code (6 : Nat) (Option.some Jvm.ClassFile.FieldType.long)) ∈ sf_TB := sf_in8 53 rfl rfl
set_option maxRecDepth 20000 in
theorem sw_1734 : (Jvm.Cond.constantLong "SplitFaresModel" (459 : Nat) (-1 : Int64)) ∈ sf_TB := sf_in8 54 rfl rfl
set_option maxRecDepth 20000 in
theorem sw_1735 : (Jvm.Cond.constantLong "SplitFaresModel" (461 : Nat) (1000000000000 : Int64)) ∈ sf_TB := sf_in8 55 rfl rfl
set_option maxRecDepth 20000 in
theorem sw_1736 : (Jvm.Cond.constantLong "SplitFaresModel" (463 : Nat) (10 : Int64)) ∈ sf_TB := sf_in8 56 rfl rfl
set_option maxRecDepth 20000 in
theorem sw_1737 : (Jvm.Cond.methodLink "SplitFaresLaw" (74 : Nat) ({ cls := "SplitFaresModel", name := "stopped", desc := "()I" } : Jvm.MethodName)) ∈ sf_TB := sf_in8 57 rfl rfl
set_option maxRecDepth 20000 in
theorem sw_1738 : (Jvm.Cond.instanceMethod ({ cls := "SplitFaresModel", name := "stopped", desc := "()I" } : Jvm.MethodName)) ∈ sf_TB := sf_in8 58 rfl rfl
set_option maxRecDepth 20000 in
theorem sw_1739 : (Jvm.Cond.selects "SplitFaresModel" ({ cls := "SplitFaresModel", name := "stopped", desc := "()I" } : Jvm.MethodName) ({ cls := "SplitFaresModel", name := "stopped", desc := "()I" } : Jvm.MethodName)) ∈ sf_TB := sf_in8 59 rfl rfl
set_option maxRecDepth 20000 in
theorem sw_1740 : (Jvm.Cond.code ({ cls := "SplitFaresModel", name := "stopped", desc := "()I" } : Jvm.MethodName) prog_13_method_132_code (1 : Nat) (Option.some Jvm.ClassFile.FieldType.int)) ∈ sf_TB := sf_in8 60 rfl rfl
set_option maxRecDepth 20000 in
theorem sw_1741 : (Jvm.Cond.methodLink "SplitFaresLaw" (66 : Nat) ({ cls := "SplitFaresModel", name := "orders", desc := "()I" } : Jvm.MethodName)) ∈ sf_TB := sf_in8 61 rfl rfl
set_option maxRecDepth 20000 in
theorem sw_1742 : (Jvm.Cond.instanceMethod ({ cls := "SplitFaresModel", name := "orders", desc := "()I" } : Jvm.MethodName)) ∈ sf_TB := sf_in8 62 rfl rfl
set_option maxRecDepth 20000 in
theorem sw_1743 : (Jvm.Cond.selects "SplitFaresModel" ({ cls := "SplitFaresModel", name := "orders", desc := "()I" } : Jvm.MethodName) ({ cls := "SplitFaresModel", name := "orders", desc := "()I" } : Jvm.MethodName)) ∈ sf_TB := sf_in8 63 rfl rfl
set_option maxRecDepth 20000 in
theorem sw_1744 : (Jvm.Cond.code ({ cls := "SplitFaresModel", name := "orders", desc := "()I" } : Jvm.MethodName) prog_13_method_133_code (5 : Nat) (Option.some Jvm.ClassFile.FieldType.int)) ∈ sf_TB := sf_in8 64 rfl rfl
set_option maxRecDepth 20000 in
theorem sw_1745 : (Jvm.Cond.methodLink "SplitFaresModel" (465 : Nat) ({ cls := "SplitFaresModel", name := "laysAside", desc := "(I)V" } : Jvm.MethodName)) ∈ sf_TB := sf_in8 65 rfl rfl
set_option maxRecDepth 20000 in
theorem sw_1747 : (Jvm.Cond.instanceMethod ({ cls := "SplitFaresModel", name := "laysAside", desc := "(I)V" } : Jvm.MethodName)) ∈ sf_TB := sf_in8 67 rfl rfl
set_option maxRecDepth 20000 in
theorem sw_1748 : (Jvm.Cond.code ({ cls := "SplitFaresModel", name := "laysAside", desc := "(I)V" } : Jvm.MethodName) prog_13_method_13_code (3 : Nat) (Option.none : Option Jvm.ClassFile.FieldType)) ∈ sf_TB := sf_in8 68 rfl rfl
set_option maxRecDepth 20000 in
theorem sw_1749 : (Jvm.Cond.methodLink "SplitFaresModel" (471 : Nat) ({ cls := "SplitFaresModel", name := "runs", desc := "(I)Z" } : Jvm.MethodName)) ∈ sf_TB := sf_in8 69 rfl rfl
set_option maxRecDepth 20000 in
theorem sw_1751 : (Jvm.Cond.instanceMethod ({ cls := "SplitFaresModel", name := "runs", desc := "(I)Z" } : Jvm.MethodName)) ∈ sf_TB := sf_in8 71 rfl rfl
set_option maxRecDepth 20000 in
theorem sw_1752 : (Jvm.Cond.code ({ cls := "SplitFaresModel", name := "runs", desc := "(I)Z" } : Jvm.MethodName) prog_13_method_137_code (5 : Nat) (Option.some Jvm.ClassFile.FieldType.boolean)) ∈ sf_TB := sf_in8 72 rfl rfl
set_option maxRecDepth 20000 in
theorem sw_1753 : (Jvm.Cond.methodLink "SplitFaresModel" (495 : Nat) ({ cls := "SplitFaresModel", name := "goesAlong", desc := "(IZ)V" } : Jvm.MethodName)) ∈ sf_TB := sf_in8 73 rfl rfl
set_option maxRecDepth 20000 in
theorem sw_1755 : (Jvm.Cond.instanceMethod ({ cls := "SplitFaresModel", name := "goesAlong", desc := "(IZ)V" } : Jvm.MethodName)) ∈ sf_TB := sf_in8 75 rfl rfl
set_option maxRecDepth 20000 in
theorem sw_1756 : (Jvm.Cond.code ({ cls := "SplitFaresModel", name := "goesAlong", desc := "(IZ)V" } : Jvm.MethodName) prog_13_method_134_code (5 : Nat) (Option.none : Option Jvm.ClassFile.FieldType)) ∈ sf_TB := sf_in8 76 rfl rfl
set_option maxRecDepth 20000 in
theorem sw_1757 : (Jvm.Cond.methodLink "SplitFaresModel" (499 : Nat) ({ cls := "SplitFaresModel", name := "obeys", desc := "()I" } : Jvm.MethodName)) ∈ sf_TB := sf_in8 77 rfl rfl
set_option maxRecDepth 20000 in
theorem sw_1759 : (Jvm.Cond.instanceMethod ({ cls := "SplitFaresModel", name := "obeys", desc := "()I" } : Jvm.MethodName)) ∈ sf_TB := sf_in8 79 rfl rfl
set_option maxRecDepth 20000 in
theorem sw_1760 : (Jvm.Cond.code ({ cls := "SplitFaresModel", name := "obeys", desc := "()I" } : Jvm.MethodName) prog_13_method_136_code (4 : Nat) (Option.some Jvm.ClassFile.FieldType.int)) ∈ sf_TB := sf_in8 80 rfl rfl
set_option maxRecDepth 20000 in
theorem sw_1761 : (Jvm.Cond.methodLink "SplitFaresModel" (491 : Nat) ({ cls := "SplitFaresModel", name := "small", desc := "(J)I" } : Jvm.MethodName)) ∈ sf_TB := sf_in8 81 rfl rfl
set_option maxRecDepth 20000 in
theorem sw_1762 : (Jvm.Cond.static ({ cls := "SplitFaresModel", name := "small", desc := "(J)I" } : Jvm.MethodName)) ∈ sf_TB := sf_in8 82 rfl rfl
set_option maxRecDepth 20000 in
theorem sw_1763 : (Jvm.Cond.code ({ cls := "SplitFaresModel", name := "small", desc := "(J)I" } : Jvm.MethodName) prog_13_method_135_code (2 : Nat) (Option.some Jvm.ClassFile.FieldType.int)) ∈ sf_TB := sf_in8 83 rfl rfl
set_option maxRecDepth 20000 in
theorem sw_1764 : (Jvm.Cond.constantLong "SplitFaresModel" (489 : Nat) (1000000 : Int64)) ∈ sf_TB := sf_in8 84 rfl rfl
set_option maxRecDepth 20000 in
theorem sw_1765 : (Jvm.Cond.methodLink "SplitFaresModel" (474 : Nat) ({ cls := "SplitFaresModel", name := "takesBack", desc := "(I)V" } : Jvm.MethodName)) ∈ sf_TB := sf_in8 85 rfl rfl
set_option maxRecDepth 20000 in
theorem sw_1767 : (Jvm.Cond.instanceMethod ({ cls := "SplitFaresModel", name := "takesBack", desc := "(I)V" } : Jvm.MethodName)) ∈ sf_TB := sf_in8 87 rfl rfl
set_option maxRecDepth 20000 in
theorem sw_1768 : (Jvm.Cond.code ({ cls := "SplitFaresModel", name := "takesBack", desc := "(I)V" } : Jvm.MethodName) prog_13_method_14_code (3 : Nat) (Option.none : Option Jvm.ClassFile.FieldType)) ∈ sf_TB := sf_in8 88 rfl rfl
set_option maxRecDepth 20000 in
theorem sw_1769 : (Jvm.Cond.methodLink "SplitFaresLaw" (167 : Nat) ({ cls := "SplitFaresModel", name := "months", desc := "(II)I" } : Jvm.MethodName)) ∈ sf_TB := sf_in8 89 rfl rfl
set_option maxRecDepth 20000 in
theorem sw_1770 : (Jvm.Cond.instanceMethod ({ cls := "SplitFaresModel", name := "months", desc := "(II)I" } : Jvm.MethodName)) ∈ sf_TB := sf_in8 90 rfl rfl
set_option maxRecDepth 20000 in
theorem sw_1771 : (Jvm.Cond.selects "SplitFaresModel" ({ cls := "SplitFaresModel", name := "months", desc := "(II)I" } : Jvm.MethodName) ({ cls := "SplitFaresModel", name := "months", desc := "(II)I" } : Jvm.MethodName)) ∈ sf_TB := sf_in8 91 rfl rfl
set_option maxRecDepth 20000 in
theorem sw_1772 : (Jvm.Cond.code ({ cls := "SplitFaresModel", name := "months", desc := "(II)I" } : Jvm.MethodName) prog_13_method_140_code (5 : Nat) (Option.some Jvm.ClassFile.FieldType.int)) ∈ sf_TB := sf_in8 92 rfl rfl
set_option maxRecDepth 20000 in
theorem sw_1773 : (Jvm.Cond.methodLink "SplitFaresModel" (517 : Nat) ({ cls := "SplitFaresModel", name := "drawnAct", desc := "()I" } : Jvm.MethodName)) ∈ sf_TB := sf_in8 93 rfl rfl
set_option maxRecDepth 20000 in
theorem sw_1775 : (Jvm.Cond.instanceMethod ({ cls := "SplitFaresModel", name := "drawnAct", desc := "()I" } : Jvm.MethodName)) ∈ sf_TB := sf_in8 95 rfl rfl
set_option maxRecDepth 20000 in
theorem sw_1776 : (Jvm.Cond.code ({ cls := "SplitFaresModel", name := "drawnAct", desc := "()I" } : Jvm.MethodName) prog_13_method_139_code (4 : Nat) (Option.some Jvm.ClassFile.FieldType.int)) ∈ sf_TB := sf_in8 96 rfl rfl
set_option maxRecDepth 20000 in
theorem sw_1777 : (Jvm.Cond.methodLink "SplitFaresModel" (511 : Nat) ({ cls := "SplitFaresModel", name := "draws", desc := "(I)I" } : Jvm.MethodName)) ∈ sf_TB := sf_in8 97 rfl rfl
set_option maxRecDepth 20000 in
theorem sw_1779 : (Jvm.Cond.instanceMethod ({ cls := "SplitFaresModel", name := "draws", desc := "(I)I" } : Jvm.MethodName)) ∈ sf_TB := sf_in8 99 rfl rfl
set_option maxRecDepth 20000 in
theorem sw_1780 : (Jvm.Cond.code ({ cls := "SplitFaresModel", name := "draws", desc := "(I)I" } : Jvm.MethodName) prog_13_method_138_code (2 : Nat) (Option.some Jvm.ClassFile.FieldType.int)) ∈ sf_TB := sf_in8 100 rfl rfl
set_option maxRecDepth 20000 in
theorem sw_1781 : (Jvm.Cond.constantLong "SplitFaresModel" (502 : Nat) (1103 : Int64)) ∈ sf_TB := sf_in8 101 rfl rfl
set_option maxRecDepth 20000 in
theorem sw_1782 : (Jvm.Cond.constantLong "SplitFaresModel" (507 : Nat) (12345 : Int64)) ∈ sf_TB := sf_in8 102 rfl rfl
set_option maxRecDepth 20000 in
theorem sw_1783 : (Jvm.Cond.constantLong "SplitFaresModel" (509 : Nat) (1000003 : Int64)) ∈ sf_TB := sf_in8 103 rfl rfl
set_option maxRecDepth 20000 in
theorem sw_1784 : (Jvm.Cond.methodLink "SplitFaresLaw" (171 : Nat) ({ cls := "SplitFaresModel", name := "drawn", desc := "(I)I" } : Jvm.MethodName)) ∈ sf_TB := sf_in8 104 rfl rfl
set_option maxRecDepth 20000 in
theorem sw_1785 : (Jvm.Cond.instanceMethod ({ cls := "SplitFaresModel", name := "drawn", desc := "(I)I" } : Jvm.MethodName)) ∈ sf_TB := sf_in8 105 rfl rfl
set_option maxRecDepth 20000 in
theorem sw_1786 : (Jvm.Cond.selects "SplitFaresModel" ({ cls := "SplitFaresModel", name := "drawn", desc := "(I)I" } : Jvm.MethodName) ({ cls := "SplitFaresModel", name := "drawn", desc := "(I)I" } : Jvm.MethodName)) ∈ sf_TB := sf_in8 106 rfl rfl
set_option maxRecDepth 20000 in
theorem sw_1787 : (Jvm.Cond.code ({ cls := "SplitFaresModel", name := "drawn", desc := "(I)I" } : Jvm.MethodName) prog_13_method_141_code (2 : Nat) (Option.some Jvm.ClassFile.FieldType.int)) ∈ sf_TB := sf_in8 107 rfl rfl
set_option maxRecDepth 20000 in
theorem sw_1788 : (Jvm.Cond.methodLink "SplitFaresLaw" (183 : Nat) ({ cls := "SplitFaresModel", name := "count", desc := "(I)I" } : Jvm.MethodName)) ∈ sf_TB := sf_in8 108 rfl rfl
set_option maxRecDepth 20000 in
theorem sw_1789 : (Jvm.Cond.instanceMethod ({ cls := "SplitFaresModel", name := "count", desc := "(I)I" } : Jvm.MethodName)) ∈ sf_TB := sf_in8 109 rfl rfl
set_option maxRecDepth 20000 in
theorem sw_1790 : (Jvm.Cond.selects "SplitFaresModel" ({ cls := "SplitFaresModel", name := "count", desc := "(I)I" } : Jvm.MethodName) ({ cls := "SplitFaresModel", name := "count", desc := "(I)I" } : Jvm.MethodName)) ∈ sf_TB := sf_in8 110 rfl rfl
set_option maxRecDepth 20000 in
theorem sw_1791 : (Jvm.Cond.code ({ cls := "SplitFaresModel", name := "count", desc := "(I)I" } : Jvm.MethodName) prog_13_method_142_code (2 : Nat) (Option.some Jvm.ClassFile.FieldType.int)) ∈ sf_TB := sf_in8 111 rfl rfl
set_option maxRecDepth 20000 in
theorem sw_1792 : (Jvm.Cond.methodLink "SplitFaresLaw" (187 : Nat) ({ cls := "SplitFaresModel", name := "status", desc := "()I" } : Jvm.MethodName)) ∈ sf_TB := sf_in8 112 rfl rfl
set_option maxRecDepth 20000 in
theorem sw_1793 : (Jvm.Cond.instanceMethod ({ cls := "SplitFaresModel", name := "status", desc := "()I" } : Jvm.MethodName)) ∈ sf_TB := sf_in8 113 rfl rfl
set_option maxRecDepth 20000 in
theorem sw_1794 : (Jvm.Cond.selects "SplitFaresModel" ({ cls := "SplitFaresModel", name := "status", desc := "()I" } : Jvm.MethodName) ({ cls := "SplitFaresModel", name := "status", desc := "()I" } : Jvm.MethodName)) ∈ sf_TB := sf_in8 114 rfl rfl
set_option maxRecDepth 20000 in
theorem sw_1795 : (Jvm.Cond.code ({ cls := "SplitFaresModel", name := "status", desc := "()I" } : Jvm.MethodName) prog_13_method_143_code (1 : Nat) (Option.some Jvm.ClassFile.FieldType.int)) ∈ sf_TB := sf_in8 115 rfl rfl
set_option maxRecDepth 20000 in
theorem sw_1796 : (Jvm.Cond.fieldLink "java/lang/String" (9 : Nat) "java/lang/String" "value" "[B") ∈ sf_TB := sf_in8 116 rfl rfl
set_option maxRecDepth 20000 in
theorem sw_1797 : (Jvm.Cond.fieldLink "java/lang/String" (15 : Nat) "java/lang/String" "coder" "B") ∈ sf_TB := sf_in8 117 rfl rfl
theorem sp_0 : Jvm.Cond.selects "SplitFares" ({ cls := "SplitFares", name := "answered", desc := "(I)I" } : Jvm.MethodName) ({ cls := "SplitFares", name := "answered", desc := "(I)I" } : Jvm.MethodName) ∈ sf_TB := sf_ip1 (q := (⟨"SplitFares", "answered", "(I)I"⟩, 13)) 0 rfl rfl
theorem sp_1 : Jvm.Cond.selects "SplitFares" ({ cls := "SplitFares", name := "refused", desc := "(I)I" } : Jvm.MethodName) ({ cls := "SplitFares", name := "refused", desc := "(I)I" } : Jvm.MethodName) ∈ sf_TB := sf_ip1 (q := (⟨"SplitFares", "refused", "(I)I"⟩, 13)) 1 rfl rfl
theorem sp_2 : Jvm.Cond.selects "SplitFares" ({ cls := "SplitFares", name := "accepted", desc := "(I)I" } : Jvm.MethodName) ({ cls := "SplitFares", name := "accepted", desc := "(I)I" } : Jvm.MethodName) ∈ sf_TB := sf_ip1 (q := (⟨"SplitFares", "accepted", "(I)I"⟩, 13)) 2 rfl rfl
theorem sp_3 : Jvm.Cond.selects "SplitFares$Office" ({ cls := "SplitFares$Office", name := "tellWords", desc := "(IIII)V" } : Jvm.MethodName) ({ cls := "SplitFares$Office", name := "tellWords", desc := "(IIII)V" } : Jvm.MethodName) ∈ sf_TB := sf_ip1 (q := (⟨"SplitFares$Office", "tellWords", "(IIII)V"⟩, 14)) 3 rfl rfl
theorem sp_4 : Jvm.Cond.selects "SplitFares$Machine" ({ cls := "SplitFares$Machine", name := "wordAt", desc := "(I)I" } : Jvm.MethodName) ({ cls := "SplitFares$Machine", name := "wordAt", desc := "(I)I" } : Jvm.MethodName) ∈ sf_TB := sf_ip1 (q := (⟨"SplitFares$Machine", "wordAt", "(I)I"⟩, 2)) 4 rfl rfl
theorem sp_5 : Jvm.Cond.selects "SplitFares$Tokens" ({ cls := "SplitFares$Tokens", name := "look", desc := "(I)V" } : Jvm.MethodName) ({ cls := "SplitFares$Tokens", name := "look", desc := "(I)V" } : Jvm.MethodName) ∈ sf_TB := sf_ip1 (q := (⟨"SplitFares$Tokens", "look", "(I)V"⟩, 9)) 5 rfl rfl
theorem sp_6 : Jvm.Cond.selects "SplitFares$Reader" ({ cls := "SplitFares$Reader", name := "readOrder", desc := "()Z" } : Jvm.MethodName) ({ cls := "SplitFares$Reader", name := "readOrder", desc := "()Z" } : Jvm.MethodName) ∈ sf_TB := sf_ip1 (q := (⟨"SplitFares$Reader", "readOrder", "()Z"⟩, 4)) 6 rfl rfl
theorem sp_7 : Jvm.Cond.selects "SplitFares$Reader" ({ cls := "SplitFares$Reader", name := "orderKind", desc := "()I" } : Jvm.MethodName) ({ cls := "SplitFares$Reader", name := "orderKind", desc := "()I" } : Jvm.MethodName) ∈ sf_TB := sf_ip1 (q := (⟨"SplitFares$Reader", "orderKind", "()I"⟩, 4)) 7 rfl rfl
theorem sp_8 : Jvm.Cond.selects "SplitFares$Tokens" ({ cls := "SplitFares$Tokens", name := "byteAt", desc := "(I)I" } : Jvm.MethodName) ({ cls := "SplitFares$Tokens", name := "byteAt", desc := "(I)I" } : Jvm.MethodName) ∈ sf_TB := sf_ip1 (q := (⟨"SplitFares$Tokens", "byteAt", "(I)I"⟩, 9)) 8 rfl rfl
theorem sp_9 : Jvm.Cond.selects "SplitFares$Reader" ({ cls := "SplitFares$Reader", name := "signOf", desc := "(I)I" } : Jvm.MethodName) ({ cls := "SplitFares$Reader", name := "signOf", desc := "(I)I" } : Jvm.MethodName) ∈ sf_TB := sf_ip1 (q := (⟨"SplitFares$Reader", "signOf", "(I)I"⟩, 4)) 9 rfl rfl
theorem sp_10 : Jvm.Cond.selects "SplitFares$Reader" ({ cls := "SplitFares$Reader", name := "readNumberOrWord", desc := "()Z" } : Jvm.MethodName) ({ cls := "SplitFares$Reader", name := "readNumberOrWord", desc := "()Z" } : Jvm.MethodName) ∈ sf_TB := sf_ip1 (q := (⟨"SplitFares$Reader", "readNumberOrWord", "()Z"⟩, 4)) 10 rfl rfl
theorem sp_11 : Jvm.Cond.selects "SplitFares$Reader" ({ cls := "SplitFares$Reader", name := "orderWord", desc := "()I" } : Jvm.MethodName) ({ cls := "SplitFares$Reader", name := "orderWord", desc := "()I" } : Jvm.MethodName) ∈ sf_TB := sf_ip1 (q := (⟨"SplitFares$Reader", "orderWord", "()I"⟩, 4)) 11 rfl rfl
theorem sp_12 : Jvm.Cond.selects "SplitFares$Reader" ({ cls := "SplitFares$Reader", name := "lawWord", desc := "()I" } : Jvm.MethodName) ({ cls := "SplitFares$Reader", name := "lawWord", desc := "()I" } : Jvm.MethodName) ∈ sf_TB := sf_ip1 (q := (⟨"SplitFares$Reader", "lawWord", "()I"⟩, 4)) 12 rfl rfl
theorem sp_13 : Jvm.Cond.selects "SplitFares$Reader" ({ cls := "SplitFares$Reader", name := "readTimes", desc := "()Z" } : Jvm.MethodName) ({ cls := "SplitFares$Reader", name := "readTimes", desc := "()Z" } : Jvm.MethodName) ∈ sf_TB := sf_ip1 (q := (⟨"SplitFares$Reader", "readTimes", "()Z"⟩, 4)) 13 rfl rfl
theorem sp_14 : Jvm.Cond.selects "SplitFares$Reader" ({ cls := "SplitFares$Reader", name := "readLawClause", desc := "()Z" } : Jvm.MethodName) ({ cls := "SplitFares$Reader", name := "readLawClause", desc := "()Z" } : Jvm.MethodName) ∈ sf_TB := sf_ip1 (q := (⟨"SplitFares$Reader", "readLawClause", "()Z"⟩, 4)) 14 rfl rfl
theorem sp_15 : Jvm.Cond.selects "SplitFares$Reader" ({ cls := "SplitFares$Reader", name := "readNots", desc := "()Z" } : Jvm.MethodName) ({ cls := "SplitFares$Reader", name := "readNots", desc := "()Z" } : Jvm.MethodName) ∈ sf_TB := sf_ip1 (q := (⟨"SplitFares$Reader", "readNots", "()Z"⟩, 4)) 15 rfl rfl
theorem sp_16 : Jvm.Cond.selects "SplitFares$Reader" ({ cls := "SplitFares$Reader", name := "comparison", desc := "()I" } : Jvm.MethodName) ({ cls := "SplitFares$Reader", name := "comparison", desc := "()I" } : Jvm.MethodName) ∈ sf_TB := sf_ip2 (q := (⟨"SplitFares$Reader", "comparison", "()I"⟩, 4)) 0 rfl rfl
theorem sp_17 : Jvm.Cond.selects "SplitFares" ({ cls := "SplitFares", name := "settleText", desc := "(Z)Z" } : Jvm.MethodName) ({ cls := "SplitFares", name := "settleText", desc := "(Z)Z" } : Jvm.MethodName) ∈ sf_TB := sf_ip2 (q := (⟨"SplitFares", "settleText", "(Z)Z"⟩, 13)) 1 rfl rfl
theorem sp_18 : Jvm.Cond.selects "SplitFares$Desk" ({ cls := "SplitFares$Desk", name := "tellWords", desc := "()V" } : Jvm.MethodName) ({ cls := "SplitFares$Desk", name := "tellWords", desc := "()V" } : Jvm.MethodName) ∈ sf_TB := sf_ip2 (q := (⟨"SplitFares$Desk", "tellWords", "()V"⟩, 8)) 2 rfl rfl
theorem sp_19 : Jvm.Cond.selects "SplitFares$Ways" ({ cls := "SplitFares$Ways", name := "leastByOneMore", desc := "(I)I" } : Jvm.MethodName) ({ cls := "SplitFares$Ways", name := "leastByOneMore", desc := "(I)I" } : Jvm.MethodName) ∈ sf_TB := sf_ip2 (q := (⟨"SplitFares$Ways", "leastByOneMore", "(I)I"⟩, 5)) 3 rfl rfl
theorem sp_20 : Jvm.Cond.selects "SplitFares$Ways" ({ cls := "SplitFares$Ways", name := "legOf", desc := "(II)I" } : Jvm.MethodName) ({ cls := "SplitFares$Ways", name := "legOf", desc := "(II)I" } : Jvm.MethodName) ∈ sf_TB := sf_ip2 (q := (⟨"SplitFares$Ways", "legOf", "(II)I"⟩, 5)) 4 rfl rfl
theorem sp_21 : Jvm.Cond.selects "SplitFares" ({ cls := "SplitFares", name := "leastOn", desc := "(IIII)I" } : Jvm.MethodName) ({ cls := "SplitFares", name := "leastOn", desc := "(IIII)I" } : Jvm.MethodName) ∈ sf_TB := sf_ip2 (q := (⟨"SplitFares", "leastOn", "(IIII)I"⟩, 13)) 5 rfl rfl
theorem sp_22 : Jvm.Cond.selects "SplitFares$Ways" ({ cls := "SplitFares$Ways", name := "returnOn", desc := "(LSplitFares$Office;IIII)I" } : Jvm.MethodName) ({ cls := "SplitFares$Ways", name := "returnOn", desc := "(LSplitFares$Office;IIII)I" } : Jvm.MethodName) ∈ sf_TB := sf_ip2 (q := (⟨"SplitFares$Ways", "returnOn", "(LSplitFares$Office;IIII)I"⟩, 5)) 6 rfl rfl
theorem sp_23 : Jvm.Cond.selects "SplitFares" ({ cls := "SplitFares", name := "fillAnswers", desc := "()V" } : Jvm.MethodName) ({ cls := "SplitFares", name := "fillAnswers", desc := "()V" } : Jvm.MethodName) ∈ sf_TB := sf_ip2 (q := (⟨"SplitFares", "fillAnswers", "()V"⟩, 13)) 7 rfl rfl
theorem sp_24 : Jvm.Cond.selects "SplitFares" ({ cls := "SplitFares", name := "trainsThatFit", desc := "()I" } : Jvm.MethodName) ({ cls := "SplitFares", name := "trainsThatFit", desc := "()I" } : Jvm.MethodName) ∈ sf_TB := sf_ip2 (q := (⟨"SplitFares", "trainsThatFit", "()I"⟩, 13)) 8 rfl rfl
theorem sp_25 : Jvm.Cond.selects "SplitFares" ({ cls := "SplitFares", name := "answerOf", desc := "(II)I" } : Jvm.MethodName) ({ cls := "SplitFares", name := "answerOf", desc := "(II)I" } : Jvm.MethodName) ∈ sf_TB := sf_ip2 (q := (⟨"SplitFares", "answerOf", "(II)I"⟩, 13)) 9 rfl rfl
theorem sp_26 : Jvm.Cond.selects "SplitFares" ({ cls := "SplitFares", name := "mostAlike", desc := "(II)I" } : Jvm.MethodName) ({ cls := "SplitFares", name := "mostAlike", desc := "(II)I" } : Jvm.MethodName) ∈ sf_TB := sf_ip2 (q := (⟨"SplitFares", "mostAlike", "(II)I"⟩, 13)) 10 rfl rfl
theorem sp_27 : Jvm.Cond.selects "SplitFaresModel" ({ cls := "SplitFaresModel", name := "refuses", desc := "(I)I" } : Jvm.MethodName) ({ cls := "SplitFaresModel", name := "refuses", desc := "(I)I" } : Jvm.MethodName) ∈ sf_TB := sf_ip2 (q := (⟨"SplitFaresModel", "refuses", "(I)I"⟩, 53)) 11 rfl rfl
theorem sp_28 : Jvm.Cond.selects "SplitFaresModel" ({ cls := "SplitFaresModel", name := "good", desc := "(I)I" } : Jvm.MethodName) ({ cls := "SplitFaresModel", name := "good", desc := "(I)I" } : Jvm.MethodName) ∈ sf_TB := sf_ip2 (q := (⟨"SplitFaresModel", "good", "(I)I"⟩, 53)) 12 rfl rfl
theorem sp_29 : Jvm.Cond.selects "SplitFaresModel" ({ cls := "SplitFaresModel", name := "settled", desc := "(I)I" } : Jvm.MethodName) ({ cls := "SplitFaresModel", name := "settled", desc := "(I)I" } : Jvm.MethodName) ∈ sf_TB := sf_ip2 (q := (⟨"SplitFaresModel", "settled", "(I)I"⟩, 53)) 13 rfl rfl
theorem sp_30 : Jvm.Cond.selects "SplitFaresModel" ({ cls := "SplitFaresModel", name := "adds", desc := "(III)V" } : Jvm.MethodName) ({ cls := "SplitFaresModel", name := "adds", desc := "(III)V" } : Jvm.MethodName) ∈ sf_TB := sf_ip2 (q := (⟨"SplitFaresModel", "adds", "(III)V"⟩, 53)) 14 rfl rfl
theorem sp_31 : Jvm.Cond.selects "SplitFaresModel" ({ cls := "SplitFaresModel", name := "isTrain", desc := "(I)Z" } : Jvm.MethodName) ({ cls := "SplitFaresModel", name := "isTrain", desc := "(I)Z" } : Jvm.MethodName) ∈ sf_TB := sf_ip2 (q := (⟨"SplitFaresModel", "isTrain", "(I)Z"⟩, 53)) 15 rfl rfl
theorem sp_32 : Jvm.Cond.selects "SplitFaresModel" ({ cls := "SplitFaresModel", name := "readsAs", desc := "(Z)Z" } : Jvm.MethodName) ({ cls := "SplitFaresModel", name := "readsAs", desc := "(Z)Z" } : Jvm.MethodName) ∈ sf_TB := sf_ip3 (q := (⟨"SplitFaresModel", "readsAs", "(Z)Z"⟩, 53)) 0 rfl rfl
theorem sp_33 : Jvm.Cond.selects "SplitFaresModel" ({ cls := "SplitFaresModel", name := "reads", desc := "()Z" } : Jvm.MethodName) ({ cls := "SplitFaresModel", name := "reads", desc := "()Z" } : Jvm.MethodName) ∈ sf_TB := sf_ip3 (q := (⟨"SplitFaresModel", "reads", "()Z"⟩, 53)) 1 rfl rfl
theorem sp_34 : Jvm.Cond.selects "SplitFaresModel" ({ cls := "SplitFaresModel", name := "splits", desc := "(I)V" } : Jvm.MethodName) ({ cls := "SplitFaresModel", name := "splits", desc := "(I)V" } : Jvm.MethodName) ∈ sf_TB := sf_ip3 (q := (⟨"SplitFaresModel", "splits", "(I)V"⟩, 53)) 2 rfl rfl
theorem sp_35 : Jvm.Cond.selects "SplitFaresModel" ({ cls := "SplitFaresModel", name := "wordOf", desc := "(II)I" } : Jvm.MethodName) ({ cls := "SplitFaresModel", name := "wordOf", desc := "(II)I" } : Jvm.MethodName) ∈ sf_TB := sf_ip3 (q := (⟨"SplitFaresModel", "wordOf", "(II)I"⟩, 53)) 3 rfl rfl
theorem sp_36 : Jvm.Cond.selects "SplitFaresModel" ({ cls := "SplitFaresModel", name := "readOne", desc := "()V" } : Jvm.MethodName) ({ cls := "SplitFaresModel", name := "readOne", desc := "()V" } : Jvm.MethodName) ∈ sf_TB := sf_ip3 (q := (⟨"SplitFaresModel", "readOne", "()V"⟩, 53)) 4 rfl rfl
theorem sp_37 : Jvm.Cond.selects "SplitFaresModel" ({ cls := "SplitFaresModel", name := "readOrder", desc := "()V" } : Jvm.MethodName) ({ cls := "SplitFaresModel", name := "readOrder", desc := "()V" } : Jvm.MethodName) ∈ sf_TB := sf_ip3 (q := (⟨"SplitFaresModel", "readOrder", "()V"⟩, 53)) 5 rfl rfl
theorem sp_38 : Jvm.Cond.selects "SplitFaresModel" ({ cls := "SplitFaresModel", name := "takes0", desc := "(I)Z" } : Jvm.MethodName) ({ cls := "SplitFaresModel", name := "takes0", desc := "(I)Z" } : Jvm.MethodName) ∈ sf_TB := sf_ip3 (q := (⟨"SplitFaresModel", "takes0", "(I)Z"⟩, 53)) 6 rfl rfl
theorem sp_39 : Jvm.Cond.selects "SplitFaresModel" ({ cls := "SplitFaresModel", name := "fine", desc := "()Z" } : Jvm.MethodName) ({ cls := "SplitFaresModel", name := "fine", desc := "()Z" } : Jvm.MethodName) ∈ sf_TB := sf_ip3 (q := (⟨"SplitFaresModel", "fine", "()Z"⟩, 53)) 7 rfl rfl
theorem sp_40 : Jvm.Cond.selects "SplitFaresModel" ({ cls := "SplitFaresModel", name := "readSum", desc := "(I)V" } : Jvm.MethodName) ({ cls := "SplitFaresModel", name := "readSum", desc := "(I)V" } : Jvm.MethodName) ∈ sf_TB := sf_ip3 (q := (⟨"SplitFaresModel", "readSum", "(I)V"⟩, 53)) 8 rfl rfl
theorem sp_41 : Jvm.Cond.selects "SplitFaresModel" ({ cls := "SplitFaresModel", name := "readTerm", desc := "(I)V" } : Jvm.MethodName) ({ cls := "SplitFaresModel", name := "readTerm", desc := "(I)V" } : Jvm.MethodName) ∈ sf_TB := sf_ip3 (q := (⟨"SplitFaresModel", "readTerm", "(I)V"⟩, 53)) 9 rfl rfl
theorem sp_42 : Jvm.Cond.selects "SplitFaresModel" ({ cls := "SplitFaresModel", name := "readPart", desc := "(I)V" } : Jvm.MethodName) ({ cls := "SplitFaresModel", name := "readPart", desc := "(I)V" } : Jvm.MethodName) ∈ sf_TB := sf_ip3 (q := (⟨"SplitFaresModel", "readPart", "(I)V"⟩, 53)) 10 rfl rfl
theorem sp_43 : Jvm.Cond.selects "SplitFaresModel" ({ cls := "SplitFaresModel", name := "faults", desc := "()V" } : Jvm.MethodName) ({ cls := "SplitFaresModel", name := "faults", desc := "()V" } : Jvm.MethodName) ∈ sf_TB := sf_ip3 (q := (⟨"SplitFaresModel", "faults", "()V"⟩, 53)) 11 rfl rfl
theorem sp_44 : Jvm.Cond.selects "SplitFaresModel" ({ cls := "SplitFaresModel", name := "must", desc := "(I)V" } : Jvm.MethodName) ({ cls := "SplitFaresModel", name := "must", desc := "(I)V" } : Jvm.MethodName) ∈ sf_TB := sf_ip3 (q := (⟨"SplitFaresModel", "must", "(I)V"⟩, 53)) 12 rfl rfl
theorem sp_45 : Jvm.Cond.selects "SplitFaresModel" ({ cls := "SplitFaresModel", name := "leaf", desc := "()V" } : Jvm.MethodName) ({ cls := "SplitFaresModel", name := "leaf", desc := "()V" } : Jvm.MethodName) ∈ sf_TB := sf_ip3 (q := (⟨"SplitFaresModel", "leaf", "()V"⟩, 53)) 13 rfl rfl
theorem sp_46 : Jvm.Cond.selects "SplitFaresModel" ({ cls := "SplitFaresModel", name := "mustNumber", desc := "(II)V" } : Jvm.MethodName) ({ cls := "SplitFaresModel", name := "mustNumber", desc := "(II)V" } : Jvm.MethodName) ∈ sf_TB := sf_ip3 (q := (⟨"SplitFaresModel", "mustNumber", "(II)V"⟩, 53)) 14 rfl rfl
theorem sp_47 : Jvm.Cond.selects "SplitFaresModel" ({ cls := "SplitFaresModel", name := "readTest", desc := "(I)V" } : Jvm.MethodName) ({ cls := "SplitFaresModel", name := "readTest", desc := "(I)V" } : Jvm.MethodName) ∈ sf_TB := sf_ip3 (q := (⟨"SplitFaresModel", "readTest", "(I)V"⟩, 53)) 15 rfl rfl
theorem sp_48 : Jvm.Cond.selects "SplitFaresModel" ({ cls := "SplitFaresModel", name := "readBoth", desc := "(I)V" } : Jvm.MethodName) ({ cls := "SplitFaresModel", name := "readBoth", desc := "(I)V" } : Jvm.MethodName) ∈ sf_TB := sf_ip4 (q := (⟨"SplitFaresModel", "readBoth", "(I)V"⟩, 53)) 0 rfl rfl
theorem sp_49 : Jvm.Cond.selects "SplitFaresModel" ({ cls := "SplitFaresModel", name := "readPlain", desc := "(I)V" } : Jvm.MethodName) ({ cls := "SplitFaresModel", name := "readPlain", desc := "(I)V" } : Jvm.MethodName) ∈ sf_TB := sf_ip4 (q := (⟨"SplitFaresModel", "readPlain", "(I)V"⟩, 53)) 1 rfl rfl
theorem sp_50 : Jvm.Cond.selects "SplitFaresModel" ({ cls := "SplitFaresModel", name := "readClause", desc := "()V" } : Jvm.MethodName) ({ cls := "SplitFaresModel", name := "readClause", desc := "()V" } : Jvm.MethodName) ∈ sf_TB := sf_ip4 (q := (⟨"SplitFaresModel", "readClause", "()V"⟩, 53)) 2 rfl rfl
theorem sp_51 : Jvm.Cond.selects "SplitFaresModel" ({ cls := "SplitFaresModel", name := "lays", desc := "(I)V" } : Jvm.MethodName) ({ cls := "SplitFaresModel", name := "lays", desc := "(I)V" } : Jvm.MethodName) ∈ sf_TB := sf_ip4 (q := (⟨"SplitFaresModel", "lays", "(I)V"⟩, 53)) 3 rfl rfl
theorem sp_52 : Jvm.Cond.selects "SplitFaresModel" ({ cls := "SplitFaresModel", name := "isLaw", desc := "(I)Z" } : Jvm.MethodName) ({ cls := "SplitFaresModel", name := "isLaw", desc := "(I)Z" } : Jvm.MethodName) ∈ sf_TB := sf_ip4 (q := (⟨"SplitFaresModel", "isLaw", "(I)Z"⟩, 53)) 4 rfl rfl
theorem sp_53 : Jvm.Cond.selects "SplitFaresModel" ({ cls := "SplitFaresModel", name := "costOf", desc := "(III)I" } : Jvm.MethodName) ({ cls := "SplitFaresModel", name := "costOf", desc := "(III)I" } : Jvm.MethodName) ∈ sf_TB := sf_ip4 (q := (⟨"SplitFaresModel", "costOf", "(III)I"⟩, 53)) 5 rfl rfl
theorem sp_54 : Jvm.Cond.selects "SplitFaresModel" ({ cls := "SplitFaresModel", name := "setsAsked", desc := "(IIII)V" } : Jvm.MethodName) ({ cls := "SplitFaresModel", name := "setsAsked", desc := "(IIII)V" } : Jvm.MethodName) ∈ sf_TB := sf_ip4 (q := (⟨"SplitFaresModel", "setsAsked", "(IIII)V"⟩, 53)) 6 rfl rfl
theorem sp_55 : Jvm.Cond.selects "SplitFaresModel" ({ cls := "SplitFaresModel", name := "tells", desc := "(II)I" } : Jvm.MethodName) ({ cls := "SplitFaresModel", name := "tells", desc := "(II)I" } : Jvm.MethodName) ∈ sf_TB := sf_ip4 (q := (⟨"SplitFaresModel", "tells", "(II)I"⟩, 53)) 7 rfl rfl
theorem sp_56 : Jvm.Cond.selects "SplitFaresModel" ({ cls := "SplitFaresModel", name := "codeAt", desc := "(I)I" } : Jvm.MethodName) ({ cls := "SplitFaresModel", name := "codeAt", desc := "(I)I" } : Jvm.MethodName) ∈ sf_TB := sf_ip4 (q := (⟨"SplitFaresModel", "codeAt", "(I)I"⟩, 53)) 8 rfl rfl
theorem sp_57 : Jvm.Cond.selects "SplitFaresModel" ({ cls := "SplitFaresModel", name := "sumOf", desc := "(Z)J" } : Jvm.MethodName) ({ cls := "SplitFaresModel", name := "sumOf", desc := "(Z)J" } : Jvm.MethodName) ∈ sf_TB := sf_ip4 (q := (⟨"SplitFaresModel", "sumOf", "(Z)J"⟩, 53)) 9 rfl rfl
theorem sp_58 : Jvm.Cond.selects "SplitFaresModel" ({ cls := "SplitFaresModel", name := "termOf", desc := "(Z)J" } : Jvm.MethodName) ({ cls := "SplitFaresModel", name := "termOf", desc := "(Z)J" } : Jvm.MethodName) ∈ sf_TB := sf_ip4 (q := (⟨"SplitFaresModel", "termOf", "(Z)J"⟩, 53)) 10 rfl rfl
theorem sp_59 : Jvm.Cond.selects "SplitFaresModel" ({ cls := "SplitFaresModel", name := "partOf", desc := "(Z)J" } : Jvm.MethodName) ({ cls := "SplitFaresModel", name := "partOf", desc := "(Z)J" } : Jvm.MethodName) ∈ sf_TB := sf_ip4 (q := (⟨"SplitFaresModel", "partOf", "(Z)J"⟩, 53)) 11 rfl rfl
theorem sp_60 : Jvm.Cond.selects "SplitFaresModel" ({ cls := "SplitFaresModel", name := "passes0", desc := "(I)Z" } : Jvm.MethodName) ({ cls := "SplitFaresModel", name := "passes0", desc := "(I)Z" } : Jvm.MethodName) ∈ sf_TB := sf_ip4 (q := (⟨"SplitFaresModel", "passes0", "(I)Z"⟩, 53)) 12 rfl rfl
theorem sp_61 : Jvm.Cond.selects "SplitFaresModel" ({ cls := "SplitFaresModel", name := "orderValue", desc := "(II)I" } : Jvm.MethodName) ({ cls := "SplitFaresModel", name := "orderValue", desc := "(II)I" } : Jvm.MethodName) ∈ sf_TB := sf_ip4 (q := (⟨"SplitFaresModel", "orderValue", "(II)I"⟩, 53)) 13 rfl rfl
theorem sp_62 : Jvm.Cond.selects "SplitFaresModel" ({ cls := "SplitFaresModel", name := "heldAll", desc := "()I" } : Jvm.MethodName) ({ cls := "SplitFaresModel", name := "heldAll", desc := "()I" } : Jvm.MethodName) ∈ sf_TB := sf_ip4 (q := (⟨"SplitFaresModel", "heldAll", "()I"⟩, 53)) 14 rfl rfl
theorem sp_63 : Jvm.Cond.selects "SplitFaresModel" ({ cls := "SplitFaresModel", name := "heldOf", desc := "(II)I" } : Jvm.MethodName) ({ cls := "SplitFaresModel", name := "heldOf", desc := "(II)I" } : Jvm.MethodName) ∈ sf_TB := sf_ip4 (q := (⟨"SplitFaresModel", "heldOf", "(II)I"⟩, 53)) 15 rfl rfl
theorem sp_64 : Jvm.Cond.selects "SplitFaresModel" ({ cls := "SplitFaresModel", name := "bounded", desc := "(JZ)J" } : Jvm.MethodName) ({ cls := "SplitFaresModel", name := "bounded", desc := "(JZ)J" } : Jvm.MethodName) ∈ sf_TB := sf_ip5 (q := (⟨"SplitFaresModel", "bounded", "(JZ)J"⟩, 53)) 0 rfl rfl
theorem sp_65 : Jvm.Cond.selects "SplitFaresModel" ({ cls := "SplitFaresModel", name := "testOf", desc := "(Z)Z" } : Jvm.MethodName) ({ cls := "SplitFaresModel", name := "testOf", desc := "(Z)Z" } : Jvm.MethodName) ∈ sf_TB := sf_ip5 (q := (⟨"SplitFaresModel", "testOf", "(Z)Z"⟩, 53)) 1 rfl rfl
theorem sp_66 : Jvm.Cond.selects "SplitFaresModel" ({ cls := "SplitFaresModel", name := "bothOf", desc := "(Z)Z" } : Jvm.MethodName) ({ cls := "SplitFaresModel", name := "bothOf", desc := "(Z)Z" } : Jvm.MethodName) ∈ sf_TB := sf_ip5 (q := (⟨"SplitFaresModel", "bothOf", "(Z)Z"⟩, 53)) 2 rfl rfl
theorem sp_67 : Jvm.Cond.selects "SplitFaresModel" ({ cls := "SplitFaresModel", name := "plainOf", desc := "(Z)Z" } : Jvm.MethodName) ({ cls := "SplitFaresModel", name := "plainOf", desc := "(Z)Z" } : Jvm.MethodName) ∈ sf_TB := sf_ip5 (q := (⟨"SplitFaresModel", "plainOf", "(Z)Z"⟩, 53)) 3 rfl rfl
theorem sp_68 : Jvm.Cond.selects "SplitFaresModel" ({ cls := "SplitFaresModel", name := "positiveOf", desc := "(Z)Z" } : Jvm.MethodName) ({ cls := "SplitFaresModel", name := "positiveOf", desc := "(Z)Z" } : Jvm.MethodName) ∈ sf_TB := sf_ip5 (q := (⟨"SplitFaresModel", "positiveOf", "(Z)Z"⟩, 53)) 4 rfl rfl
theorem sp_69 : Jvm.Cond.selects "SplitFaresModel" ({ cls := "SplitFaresModel", name := "barredFrom", desc := "(IIII)Z" } : Jvm.MethodName) ({ cls := "SplitFaresModel", name := "barredFrom", desc := "(IIII)Z" } : Jvm.MethodName) ∈ sf_TB := sf_ip5 (q := (⟨"SplitFaresModel", "barredFrom", "(IIII)Z"⟩, 53)) 5 rfl rfl
theorem sp_70 : Jvm.Cond.selects "SplitFaresModel" ({ cls := "SplitFaresModel", name := "canAsk", desc := "(III)Z" } : Jvm.MethodName) ({ cls := "SplitFaresModel", name := "canAsk", desc := "(III)Z" } : Jvm.MethodName) ∈ sf_TB := sf_ip5 (q := (⟨"SplitFaresModel", "canAsk", "(III)Z"⟩, 53)) 6 rfl rfl
theorem sp_71 : Jvm.Cond.selects "SplitFaresModel" ({ cls := "SplitFaresModel", name := "goes", desc := "(III)Z" } : Jvm.MethodName) ({ cls := "SplitFaresModel", name := "goes", desc := "(III)Z" } : Jvm.MethodName) ∈ sf_TB := sf_ip5 (q := (⟨"SplitFaresModel", "goes", "(III)Z"⟩, 53)) 7 rfl rfl
theorem sp_72 : Jvm.Cond.selects "SplitFaresModel" ({ cls := "SplitFaresModel", name := "cheapestOf", desc := "(III)I" } : Jvm.MethodName) ({ cls := "SplitFaresModel", name := "cheapestOf", desc := "(III)I" } : Jvm.MethodName) ∈ sf_TB := sf_ip5 (q := (⟨"SplitFaresModel", "cheapestOf", "(III)I"⟩, 53)) 8 rfl rfl
theorem sp_73 : Jvm.Cond.selects "SplitFaresModel" ({ cls := "SplitFaresModel", name := "laysLine", desc := "(III)V" } : Jvm.MethodName) ({ cls := "SplitFaresModel", name := "laysLine", desc := "(III)V" } : Jvm.MethodName) ∈ sf_TB := sf_ip5 (q := (⟨"SplitFaresModel", "laysLine", "(III)V"⟩, 53)) 9 rfl rfl
theorem sp_74 : Jvm.Cond.selects "SplitFaresModel" ({ cls := "SplitFaresModel", name := "laysSingles", desc := "(I)V" } : Jvm.MethodName) ({ cls := "SplitFaresModel", name := "laysSingles", desc := "(I)V" } : Jvm.MethodName) ∈ sf_TB := sf_ip5 (q := (⟨"SplitFaresModel", "laysSingles", "(I)V"⟩, 53)) 10 rfl rfl
theorem sp_75 : Jvm.Cond.selects "SplitFaresModel" ({ cls := "SplitFaresModel", name := "laysLeft", desc := "()V" } : Jvm.MethodName) ({ cls := "SplitFaresModel", name := "laysLeft", desc := "()V" } : Jvm.MethodName) ∈ sf_TB := sf_ip5 (q := (⟨"SplitFaresModel", "laysLeft", "()V"⟩, 53)) 11 rfl rfl
theorem sp_76 : Jvm.Cond.selects "SplitFaresModel" ({ cls := "SplitFaresModel", name := "laidOr", desc := "()I" } : Jvm.MethodName) ({ cls := "SplitFaresModel", name := "laidOr", desc := "()I" } : Jvm.MethodName) ∈ sf_TB := sf_ip5 (q := (⟨"SplitFaresModel", "laidOr", "()I"⟩, 53)) 12 rfl rfl
theorem sp_77 : Jvm.Cond.selects "SplitFaresModel" ({ cls := "SplitFaresModel", name := "endOf", desc := "(I)I" } : Jvm.MethodName) ({ cls := "SplitFaresModel", name := "endOf", desc := "(I)I" } : Jvm.MethodName) ∈ sf_TB := sf_ip5 (q := (⟨"SplitFaresModel", "endOf", "(I)I"⟩, 53)) 13 rfl rfl
theorem sp_78 : Jvm.Cond.selects "SplitFaresModel" ({ cls := "SplitFaresModel", name := "nextOf", desc := "(I)I" } : Jvm.MethodName) ({ cls := "SplitFaresModel", name := "nextOf", desc := "(I)I" } : Jvm.MethodName) ∈ sf_TB := sf_ip5 (q := (⟨"SplitFaresModel", "nextOf", "(I)I"⟩, 53)) 14 rfl rfl
theorem sp_79 : Jvm.Cond.selects "SplitFaresModel" ({ cls := "SplitFaresModel", name := "laysBy", desc := "()V" } : Jvm.MethodName) ({ cls := "SplitFaresModel", name := "laysBy", desc := "()V" } : Jvm.MethodName) ∈ sf_TB := sf_ip5 (q := (⟨"SplitFaresModel", "laysBy", "()V"⟩, 53)) 15 rfl rfl
theorem sp_80 : Jvm.Cond.selects "SplitFaresModel" ({ cls := "SplitFaresModel", name := "laysBoth", desc := "(II)V" } : Jvm.MethodName) ({ cls := "SplitFaresModel", name := "laysBoth", desc := "(II)V" } : Jvm.MethodName) ∈ sf_TB := sf_ip6 (q := (⟨"SplitFaresModel", "laysBoth", "(II)V"⟩, 53)) 0 rfl rfl
theorem sp_81 : Jvm.Cond.selects "SplitFaresModel" ({ cls := "SplitFaresModel", name := "costsTogether", desc := "(IIII)I" } : Jvm.MethodName) ({ cls := "SplitFaresModel", name := "costsTogether", desc := "(IIII)I" } : Jvm.MethodName) ∈ sf_TB := sf_ip6 (q := (⟨"SplitFaresModel", "costsTogether", "(IIII)I"⟩, 53)) 1 rfl rfl
theorem sp_82 : Jvm.Cond.selects "SplitFaresModel" ({ cls := "SplitFaresModel", name := "savedOf", desc := "(III)I" } : Jvm.MethodName) ({ cls := "SplitFaresModel", name := "savedOf", desc := "(III)I" } : Jvm.MethodName) ∈ sf_TB := sf_ip6 (q := (⟨"SplitFaresModel", "savedOf", "(III)I"⟩, 53)) 2 rfl rfl
theorem sp_83 : Jvm.Cond.selects "SplitFaresModel" ({ cls := "SplitFaresModel", name := "buysKept", desc := "(III)I" } : Jvm.MethodName) ({ cls := "SplitFaresModel", name := "buysKept", desc := "(III)I" } : Jvm.MethodName) ∈ sf_TB := sf_ip6 (q := (⟨"SplitFaresModel", "buysKept", "(III)I"⟩, 53)) 3 rfl rfl
theorem sp_84 : Jvm.Cond.selects "SplitFaresModel" ({ cls := "SplitFaresModel", name := "canBuy", desc := "(III)Z" } : Jvm.MethodName) ({ cls := "SplitFaresModel", name := "canBuy", desc := "(III)Z" } : Jvm.MethodName) ∈ sf_TB := sf_ip6 (q := (⟨"SplitFaresModel", "canBuy", "(III)Z"⟩, 53)) 4 rfl rfl
theorem sp_85 : Jvm.Cond.selects "SplitFaresModel" ({ cls := "SplitFaresModel", name := "keeps", desc := "(I)V" } : Jvm.MethodName) ({ cls := "SplitFaresModel", name := "keeps", desc := "(I)V" } : Jvm.MethodName) ∈ sf_TB := sf_ip6 (q := (⟨"SplitFaresModel", "keeps", "(I)V"⟩, 53)) 5 rfl rfl
theorem sp_86 : Jvm.Cond.selects "SplitFaresModel" ({ cls := "SplitFaresModel", name := "buys", desc := "(III)V" } : Jvm.MethodName) ({ cls := "SplitFaresModel", name := "buys", desc := "(III)V" } : Jvm.MethodName) ∈ sf_TB := sf_ip6 (q := (⟨"SplitFaresModel", "buys", "(III)V"⟩, 53)) 6 rfl rfl
theorem sp_87 : Jvm.Cond.selects "SplitFaresModel" ({ cls := "SplitFaresModel", name := "goodOr", desc := "(I)I" } : Jvm.MethodName) ({ cls := "SplitFaresModel", name := "goodOr", desc := "(I)I" } : Jvm.MethodName) ∈ sf_TB := sf_ip6 (q := (⟨"SplitFaresModel", "goodOr", "(I)I"⟩, 53)) 7 rfl rfl
theorem sp_88 : Jvm.Cond.selects "SplitFaresModel" ({ cls := "SplitFaresModel", name := "ridesKept", desc := "(II)I" } : Jvm.MethodName) ({ cls := "SplitFaresModel", name := "ridesKept", desc := "(II)I" } : Jvm.MethodName) ∈ sf_TB := sf_ip6 (q := (⟨"SplitFaresModel", "ridesKept", "(II)I"⟩, 53)) 8 rfl rfl
theorem sp_89 : Jvm.Cond.selects "SplitFaresModel" ({ cls := "SplitFaresModel", name := "canRide", desc := "(II)Z" } : Jvm.MethodName) ({ cls := "SplitFaresModel", name := "canRide", desc := "(II)Z" } : Jvm.MethodName) ∈ sf_TB := sf_ip6 (q := (⟨"SplitFaresModel", "canRide", "(II)Z"⟩, 53)) 9 rfl rfl
theorem sp_90 : Jvm.Cond.selects "SplitFaresModel" ({ cls := "SplitFaresModel", name := "laysHeld", desc := "(I)V" } : Jvm.MethodName) ({ cls := "SplitFaresModel", name := "laysHeld", desc := "(I)V" } : Jvm.MethodName) ∈ sf_TB := sf_ip6 (q := (⟨"SplitFaresModel", "laysHeld", "(I)V"⟩, 53)) 10 rfl rfl
theorem sp_91 : Jvm.Cond.selects "SplitFaresModel" ({ cls := "SplitFaresModel", name := "sortFor", desc := "(III)I" } : Jvm.MethodName) ({ cls := "SplitFaresModel", name := "sortFor", desc := "(III)I" } : Jvm.MethodName) ∈ sf_TB := sf_ip6 (q := (⟨"SplitFaresModel", "sortFor", "(III)I"⟩, 53)) 11 rfl rfl
theorem sp_92 : Jvm.Cond.selects "SplitFaresModel" ({ cls := "SplitFaresModel", name := "ticketBarred", desc := "(IIII)Z" } : Jvm.MethodName) ({ cls := "SplitFaresModel", name := "ticketBarred", desc := "(IIII)Z" } : Jvm.MethodName) ∈ sf_TB := sf_ip6 (q := (⟨"SplitFaresModel", "ticketBarred", "(IIII)Z"⟩, 53)) 12 rfl rfl
theorem sp_93 : Jvm.Cond.selects "SplitFaresModel" ({ cls := "SplitFaresModel", name := "rides", desc := "(I)I" } : Jvm.MethodName) ({ cls := "SplitFaresModel", name := "rides", desc := "(I)I" } : Jvm.MethodName) ∈ sf_TB := sf_ip6 (q := (⟨"SplitFaresModel", "rides", "(I)I"⟩, 53)) 13 rfl rfl
theorem sp_94 : Jvm.Cond.selects "SplitFaresModel" ({ cls := "SplitFaresModel", name := "uses", desc := "(III)V" } : Jvm.MethodName) ({ cls := "SplitFaresModel", name := "uses", desc := "(III)V" } : Jvm.MethodName) ∈ sf_TB := sf_ip6 (q := (⟨"SplitFaresModel", "uses", "(III)V"⟩, 53)) 14 rfl rfl
theorem sp_95 : Jvm.Cond.selects "SplitFaresModel" ({ cls := "SplitFaresModel", name := "savesKept", desc := "(I)I" } : Jvm.MethodName) ({ cls := "SplitFaresModel", name := "savesKept", desc := "(I)I" } : Jvm.MethodName) ∈ sf_TB := sf_ip6 (q := (⟨"SplitFaresModel", "savesKept", "(I)I"⟩, 53)) 15 rfl rfl
theorem sp_96 : Jvm.Cond.selects "SplitFaresModel" ({ cls := "SplitFaresModel", name := "passesKept", desc := "()I" } : Jvm.MethodName) ({ cls := "SplitFaresModel", name := "passesKept", desc := "()I" } : Jvm.MethodName) ∈ sf_TB := sf_ip7 (q := (⟨"SplitFaresModel", "passesKept", "()I"⟩, 53)) 0 rfl rfl
theorem sp_97 : Jvm.Cond.selects "SplitFaresModel" ({ cls := "SplitFaresModel", name := "dayPasses", desc := "()I" } : Jvm.MethodName) ({ cls := "SplitFaresModel", name := "dayPasses", desc := "()I" } : Jvm.MethodName) ∈ sf_TB := sf_ip7 (q := (⟨"SplitFaresModel", "dayPasses", "()I"⟩, 53)) 1 rfl rfl
theorem sp_98 : Jvm.Cond.selects "SplitFaresModel" ({ cls := "SplitFaresModel", name := "laysFares", desc := "()V" } : Jvm.MethodName) ({ cls := "SplitFaresModel", name := "laysFares", desc := "()V" } : Jvm.MethodName) ∈ sf_TB := sf_ip7 (q := (⟨"SplitFaresModel", "laysFares", "()V"⟩, 53)) 2 rfl rfl
theorem sp_99 : Jvm.Cond.selects "SplitFaresModel" ({ cls := "SplitFaresModel", name := "isSo", desc := "(I)Z" } : Jvm.MethodName) ({ cls := "SplitFaresModel", name := "isSo", desc := "(I)Z" } : Jvm.MethodName) ∈ sf_TB := sf_ip7 (q := (⟨"SplitFaresModel", "isSo", "(I)Z"⟩, 53)) 3 rfl rfl
theorem sp_100 : Jvm.Cond.selects "SplitFaresModel" ({ cls := "SplitFaresModel", name := "mostAlike", desc := "(II)I" } : Jvm.MethodName) ({ cls := "SplitFaresModel", name := "mostAlike", desc := "(II)I" } : Jvm.MethodName) ∈ sf_TB := sf_ip7 (q := (⟨"SplitFaresModel", "mostAlike", "(II)I"⟩, 53)) 4 rfl rfl
theorem sp_101 : Jvm.Cond.selects "SplitFaresModel" ({ cls := "SplitFaresModel", name := "laysAside", desc := "(I)V" } : Jvm.MethodName) ({ cls := "SplitFaresModel", name := "laysAside", desc := "(I)V" } : Jvm.MethodName) ∈ sf_TB := sf_ip7 (q := (⟨"SplitFaresModel", "laysAside", "(I)V"⟩, 53)) 5 rfl rfl
theorem sp_102 : Jvm.Cond.selects "SplitFaresModel" ({ cls := "SplitFaresModel", name := "runs", desc := "(I)Z" } : Jvm.MethodName) ({ cls := "SplitFaresModel", name := "runs", desc := "(I)Z" } : Jvm.MethodName) ∈ sf_TB := sf_ip7 (q := (⟨"SplitFaresModel", "runs", "(I)Z"⟩, 53)) 6 rfl rfl
theorem sp_103 : Jvm.Cond.selects "SplitFaresModel" ({ cls := "SplitFaresModel", name := "goesAlong", desc := "(IZ)V" } : Jvm.MethodName) ({ cls := "SplitFaresModel", name := "goesAlong", desc := "(IZ)V" } : Jvm.MethodName) ∈ sf_TB := sf_ip7 (q := (⟨"SplitFaresModel", "goesAlong", "(IZ)V"⟩, 53)) 7 rfl rfl
theorem sp_104 : Jvm.Cond.selects "SplitFaresModel" ({ cls := "SplitFaresModel", name := "obeys", desc := "()I" } : Jvm.MethodName) ({ cls := "SplitFaresModel", name := "obeys", desc := "()I" } : Jvm.MethodName) ∈ sf_TB := sf_ip7 (q := (⟨"SplitFaresModel", "obeys", "()I"⟩, 53)) 8 rfl rfl
theorem sp_105 : Jvm.Cond.selects "SplitFaresModel" ({ cls := "SplitFaresModel", name := "takesBack", desc := "(I)V" } : Jvm.MethodName) ({ cls := "SplitFaresModel", name := "takesBack", desc := "(I)V" } : Jvm.MethodName) ∈ sf_TB := sf_ip7 (q := (⟨"SplitFaresModel", "takesBack", "(I)V"⟩, 53)) 9 rfl rfl
theorem sp_106 : Jvm.Cond.selects "SplitFaresModel" ({ cls := "SplitFaresModel", name := "drawnAct", desc := "()I" } : Jvm.MethodName) ({ cls := "SplitFaresModel", name := "drawnAct", desc := "()I" } : Jvm.MethodName) ∈ sf_TB := sf_ip7 (q := (⟨"SplitFaresModel", "drawnAct", "()I"⟩, 53)) 10 rfl rfl
theorem sp_107 : Jvm.Cond.selects "SplitFaresModel" ({ cls := "SplitFaresModel", name := "draws", desc := "(I)I" } : Jvm.MethodName) ({ cls := "SplitFaresModel", name := "draws", desc := "(I)I" } : Jvm.MethodName) ∈ sf_TB := sf_ip7 (q := (⟨"SplitFaresModel", "draws", "(I)I"⟩, 53)) 11 rfl rfl
/-- links to private members of nest mates: no words of sf_TB -/
def sf_NW : List Cond := [(Jvm.Cond.methodLinkNest "SplitFares" (11 : Nat) ({ cls := "SplitFares$Desk", name := "<init>", desc := "()V" } : Jvm.MethodName) "SplitFares"),
  (Jvm.Cond.methodLinkNest "SplitFares$Desk" (11 : Nat) ({ cls := "SplitFares$Office", name := "<init>", desc := "()V" } : Jvm.MethodName) "SplitFares"),
  (Jvm.Cond.methodLinkNest "SplitFares$Office" (11 : Nat) ({ cls := "SplitFares$Pocket", name := "<init>", desc := "()V" } : Jvm.MethodName) "SplitFares"),
  (Jvm.Cond.methodLinkNest "SplitFares$Office" (61 : Nat) ({ cls := "SplitFares$Machine", name := "<init>", desc := "()V" } : Jvm.MethodName) "SplitFares"),
  (Jvm.Cond.methodLinkNest "SplitFares$Desk" (20 : Nat) ({ cls := "SplitFares$Ways", name := "<init>", desc := "()V" } : Jvm.MethodName) "SplitFares"),
  (Jvm.Cond.methodLinkNest "SplitFares$Log" (28 : Nat) ({ cls := "SplitFares$Pocket", name := "<init>", desc := "()V" } : Jvm.MethodName) "SplitFares"),
  (Jvm.Cond.methodLinkNest "SplitFares$Desk" (37 : Nat) ({ cls := "SplitFares$Pocket", name := "<init>", desc := "()V" } : Jvm.MethodName) "SplitFares"),
  (Jvm.Cond.methodLinkNest "SplitFares$Desk" (44 : Nat) ({ cls := "SplitFares$Machine", name := "<init>", desc := "()V" } : Jvm.MethodName) "SplitFares"),
  (Jvm.Cond.methodLinkNest "SplitFares" (18 : Nat) ({ cls := "SplitFares$Tape", name := "<init>", desc := "()V" } : Jvm.MethodName) "SplitFares"),
  (Jvm.Cond.methodLinkNest "SplitFares" (25 : Nat) ({ cls := "SplitFares$Reader", name := "<init>", desc := "()V" } : Jvm.MethodName) "SplitFares"),
  (Jvm.Cond.methodLinkNest "SplitFares$Reader" (11 : Nat) ({ cls := "SplitFares$Program", name := "<init>", desc := "()V" } : Jvm.MethodName) "SplitFares"),
  (Jvm.Cond.methodLinkNest "SplitFares$Reader" (20 : Nat) ({ cls := "SplitFares$Tokens", name := "<init>", desc := "()V" } : Jvm.MethodName) "SplitFares"),
  (Jvm.Cond.methodLinkNest "SplitFares" (164 : Nat) ({ cls := "SplitFares$Program", name := "<init>", desc := "()V" } : Jvm.MethodName) "SplitFares"),
  (Jvm.Cond.methodLinkNest "SplitFares$Desk" (56 : Nat) ({ cls := "SplitFares", name := "isBought", desc := "(III)Z" } : Jvm.MethodName) "SplitFares"),
  (Jvm.Cond.methodLinkNest "SplitFares$Desk" (81 : Nat) ({ cls := "SplitFares", name := "isStation", desc := "(I)Z" } : Jvm.MethodName) "SplitFares"),
  (Jvm.Cond.methodLinkNest "SplitFares$Office" (86 : Nat) ({ cls := "SplitFares", name := "isLeg", desc := "(II)Z" } : Jvm.MethodName) "SplitFares"),
  (Jvm.Cond.methodLinkNest "SplitFares$Ways" (61 : Nat) ({ cls := "SplitFares", name := "isLeg", desc := "(II)Z" } : Jvm.MethodName) "SplitFares"),
  (Jvm.Cond.methodLinkNest "SplitFares$Office" (90 : Nat) ({ cls := "SplitFares", name := "isStation", desc := "(I)Z" } : Jvm.MethodName) "SplitFares"),
  (Jvm.Cond.methodLinkNest "SplitFares" (300 : Nat) ({ cls := "SplitFares$Office", name := "<init>", desc := "()V" } : Jvm.MethodName) "SplitFares")]
theorem sn_31 : (Jvm.Cond.methodLinkNest "SplitFares" (11 : Nat) ({ cls := "SplitFares$Desk", name := "<init>", desc := "()V" } : Jvm.MethodName) "SplitFares") ∈ sf_NW := List.mem_of_getElem? (i := 0) rfl
theorem sn_37 : (Jvm.Cond.methodLinkNest "SplitFares$Desk" (11 : Nat) ({ cls := "SplitFares$Office", name := "<init>", desc := "()V" } : Jvm.MethodName) "SplitFares") ∈ sf_NW := List.mem_of_getElem? (i := 1) rfl
theorem sn_43 : (Jvm.Cond.methodLinkNest "SplitFares$Office" (11 : Nat) ({ cls := "SplitFares$Pocket", name := "<init>", desc := "()V" } : Jvm.MethodName) "SplitFares") ∈ sf_NW := List.mem_of_getElem? (i := 2) rfl
theorem sn_72 : (Jvm.Cond.methodLinkNest "SplitFares$Office" (61 : Nat) ({ cls := "SplitFares$Machine", name := "<init>", desc := "()V" } : Jvm.MethodName) "SplitFares") ∈ sf_NW := List.mem_of_getElem? (i := 3) rfl
theorem sn_144 : (Jvm.Cond.methodLinkNest "SplitFares$Desk" (20 : Nat) ({ cls := "SplitFares$Ways", name := "<init>", desc := "()V" } : Jvm.MethodName) "SplitFares") ∈ sf_NW := List.mem_of_getElem? (i := 4) rfl
theorem sn_172 : (Jvm.Cond.methodLinkNest "SplitFares$Log" (28 : Nat) ({ cls := "SplitFares$Pocket", name := "<init>", desc := "()V" } : Jvm.MethodName) "SplitFares") ∈ sf_NW := List.mem_of_getElem? (i := 5) rfl
theorem sn_188 : (Jvm.Cond.methodLinkNest "SplitFares$Desk" (37 : Nat) ({ cls := "SplitFares$Pocket", name := "<init>", desc := "()V" } : Jvm.MethodName) "SplitFares") ∈ sf_NW := List.mem_of_getElem? (i := 6) rfl
theorem sn_190 : (Jvm.Cond.methodLinkNest "SplitFares$Desk" (44 : Nat) ({ cls := "SplitFares$Machine", name := "<init>", desc := "()V" } : Jvm.MethodName) "SplitFares") ∈ sf_NW := List.mem_of_getElem? (i := 7) rfl
theorem sn_222 : (Jvm.Cond.methodLinkNest "SplitFares" (18 : Nat) ({ cls := "SplitFares$Tape", name := "<init>", desc := "()V" } : Jvm.MethodName) "SplitFares") ∈ sf_NW := List.mem_of_getElem? (i := 8) rfl
theorem sn_237 : (Jvm.Cond.methodLinkNest "SplitFares" (25 : Nat) ({ cls := "SplitFares$Reader", name := "<init>", desc := "()V" } : Jvm.MethodName) "SplitFares") ∈ sf_NW := List.mem_of_getElem? (i := 9) rfl
theorem sn_243 : (Jvm.Cond.methodLinkNest "SplitFares$Reader" (11 : Nat) ({ cls := "SplitFares$Program", name := "<init>", desc := "()V" } : Jvm.MethodName) "SplitFares") ∈ sf_NW := List.mem_of_getElem? (i := 10) rfl
theorem sn_267 : (Jvm.Cond.methodLinkNest "SplitFares$Reader" (20 : Nat) ({ cls := "SplitFares$Tokens", name := "<init>", desc := "()V" } : Jvm.MethodName) "SplitFares") ∈ sf_NW := List.mem_of_getElem? (i := 11) rfl
theorem sn_725 : (Jvm.Cond.methodLinkNest "SplitFares" (164 : Nat) ({ cls := "SplitFares$Program", name := "<init>", desc := "()V" } : Jvm.MethodName) "SplitFares") ∈ sf_NW := List.mem_of_getElem? (i := 12) rfl
theorem sn_777 : (Jvm.Cond.methodLinkNest "SplitFares$Desk" (56 : Nat) ({ cls := "SplitFares", name := "isBought", desc := "(III)Z" } : Jvm.MethodName) "SplitFares") ∈ sf_NW := List.mem_of_getElem? (i := 13) rfl
theorem sn_797 : (Jvm.Cond.methodLinkNest "SplitFares$Desk" (81 : Nat) ({ cls := "SplitFares", name := "isStation", desc := "(I)Z" } : Jvm.MethodName) "SplitFares") ∈ sf_NW := List.mem_of_getElem? (i := 14) rfl
theorem sn_806 : (Jvm.Cond.methodLinkNest "SplitFares$Office" (86 : Nat) ({ cls := "SplitFares", name := "isLeg", desc := "(II)Z" } : Jvm.MethodName) "SplitFares") ∈ sf_NW := List.mem_of_getElem? (i := 15) rfl
theorem sn_813 : (Jvm.Cond.methodLinkNest "SplitFares$Ways" (61 : Nat) ({ cls := "SplitFares", name := "isLeg", desc := "(II)Z" } : Jvm.MethodName) "SplitFares") ∈ sf_NW := List.mem_of_getElem? (i := 16) rfl
theorem sn_980 : (Jvm.Cond.methodLinkNest "SplitFares$Office" (90 : Nat) ({ cls := "SplitFares", name := "isStation", desc := "(I)Z" } : Jvm.MethodName) "SplitFares") ∈ sf_NW := List.mem_of_getElem? (i := 17) rfl
theorem sn_1045 : (Jvm.Cond.methodLinkNest "SplitFares" (300 : Nat) ({ cls := "SplitFares$Office", name := "<init>", desc := "()V" } : Jvm.MethodName) "SplitFares") ∈ sf_NW := List.mem_of_getElem? (i := 18) rfl
