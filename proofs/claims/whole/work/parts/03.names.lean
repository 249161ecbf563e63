-- names: classes, fields, methods, the tables' words, decoded instructions (written by wip/whole/gen)
def R_D : String := "DiagramBench"
def F_D : u_T := fun k => match k with
  | 0 => ("DiagramBench", "held", "[[J", true)
  | 1 => ("DiagramBench", "work", "[J", true)
  | 2 => ("DiagramBench", "spare", "[J", true)
  | _ => ("DiagramBench", "diagram", "LDiagramBench$Diagram;", true)
def t_D : Nat → FieldType := fun k => match k with
  | 0 => .array (.array .long)
  | 1 => .array .long
  | 2 => .array .long
  | _ => .object "DiagramBench$Diagram"
theorem n_D : ∀ a, a < 4 → ∀ b, b < 4 → a ≠ b → (F_D a).2.1 ≠ (F_D b).2.1 := by decide +kernel
theorem t_D_ok : ∀ k, k < 4 → parseFieldDescriptor (F_D k).2.2.1 = some (t_D k) := by decide +kernel
def R_G : String := "DiagramBench$Diagram"
def F_G : u_T := fun k => match k with
  | 0 => ("DiagramBench$Diagram", "keys", "[I", true)
  | 1 => ("DiagramBench$Diagram", "names", "[I", true)
  | _ => ("DiagramBench$Diagram", "nodeCount", "I", false)
def t_G : Nat → FieldType := fun k => match k with
  | 0 => .array .int
  | 1 => .array .int
  | _ => .int
theorem n_G : ∀ a, a < 3 → ∀ b, b < 3 → a ≠ b → (F_G a).2.1 ≠ (F_G b).2.1 := by decide +kernel
theorem t_G_ok : ∀ k, k < 3 → parseFieldDescriptor (F_G k).2.2.1 = some (t_G k) := by decide +kernel
def R_M : String := "DiagramBenchModel"
def F_M : u_T := fun k => match k with
  | 0 => ("DiagramBenchModel", "thrown", "I", false)
  | 1 => ("DiagramBenchModel", "register", "[[Z", true)
  | 2 => ("DiagramBenchModel", "work", "[Z", true)
  | 3 => ("DiagramBenchModel", "foundIn", "[I", true)
  | _ => ("DiagramBenchModel", "foundAt", "[I", true)
def t_M : Nat → FieldType := fun k => match k with
  | 0 => .int
  | 1 => .array (.array .boolean)
  | 2 => .array .boolean
  | 3 => .array .int
  | _ => .array .int
theorem n_M : ∀ a, a < 5 → ∀ b, b < 5 → a ≠ b → (F_M a).2.1 ≠ (F_M b).2.1 := by decide +kernel
theorem t_M_ok : ∀ k, k < 5 → parseFieldDescriptor (F_M k).2.2.1 = some (t_M k) := by decide +kernel
abbrev cls : List vw_C := [(R_D, F_D, 4), (R_G, F_G, 3), (R_M, F_M, 5)]
theorem w_0 : (Jvm.Cond.initialized "DiagramBenchLaw") ∈ TT := TT_of 0 (by decide +kernel) rfl
theorem w_1 : (Jvm.Cond.initialized "DiagramBench") ∈ TT := TT_of 1 (by decide +kernel) rfl
theorem w_2 : (Jvm.Cond.initialized "DiagramBench$Diagram") ∈ TT := TT_of 2 (by decide +kernel) rfl
theorem w_3 : (Jvm.Cond.initialized "DiagramBenchModel") ∈ TT := TT_of 3 (by decide +kernel) rfl
theorem w_4 : (Jvm.Cond.initialized "java/lang/Throwable") ∈ TT := TT_of 4 (by decide +kernel) rfl
theorem w_5 : (Jvm.Cond.initialized "java/lang/Exception") ∈ TT := TT_of 5 (by decide +kernel) rfl
theorem w_6 : (Jvm.Cond.initialized "java/lang/RuntimeException") ∈ TT := TT_of 6 (by decide +kernel) rfl
theorem w_7 : (Jvm.Cond.initialized "java/lang/IllegalArgumentException") ∈ TT := TT_of 7 (by decide +kernel) rfl
theorem w_8 : (Jvm.Cond.initialized "java/util/Arrays") ∈ TT := TT_of 8 (by decide +kernel) rfl
theorem w_9 : (Jvm.Cond.initialized "java/lang/System") ∈ TT := TT_of 9 (by decide +kernel) rfl
theorem w_10 : (Jvm.Cond.initialized "java/lang/Long") ∈ TT := TT_of 10 (by decide +kernel) rfl
theorem w_11 : (Jvm.Cond.initialized "java/util/NoSuchElementException") ∈ TT := TT_of 11 (by decide +kernel) rfl
theorem w_12 : (Jvm.Cond.initialized "java/lang/Math") ∈ TT := TT_of 12 (by decide +kernel) rfl
theorem w_13 : (Jvm.Cond.classLink "DiagramBenchLaw" 8 "DiagramBench") ∈ TT := TT_of 13 (by decide +kernel) rfl
theorem w_14 : (Jvm.Cond.instantiable "DiagramBench" 4) ∈ TT := TT_of 14 (by decide +kernel) rfl
theorem w_15 : (Jvm.Cond.methodLink "DiagramBenchLaw" 64 (⟨"DiagramBench", "<init>", "()V"⟩ : MethodName)) ∈ TT := TT_of 15 (by decide +kernel) rfl
theorem w_16 : (Jvm.Cond.instanceMethod (⟨"DiagramBench", "<init>", "()V"⟩ : MethodName)) ∈ TT := TT_of 16 (by decide +kernel) rfl
theorem w_17 : (Jvm.Cond.code (⟨"DiagramBench", "<init>", "()V"⟩ : MethodName) prog_1_method_1_code 1 (Option.none : Option Jvm.ClassFile.FieldType)) ∈ TT := TT_of 17 rfl rfl
theorem w_18 : (Jvm.Cond.methodLink "DiagramBench" 3 (⟨"java/lang/Object", "<init>", "()V"⟩ : MethodName)) ∈ TT := TT_of 18 (by decide +kernel) rfl
theorem w_19 : (Jvm.Cond.instanceMethod (⟨"java/lang/Object", "<init>", "()V"⟩ : MethodName)) ∈ TT := TT_of 19 (by decide +kernel) rfl
theorem w_20 : (Jvm.Cond.code (⟨"java/lang/Object", "<init>", "()V"⟩ : MethodName) object_method_1_code 1 (Option.none : Option Jvm.ClassFile.FieldType)) ∈ TT := TT_of 20 rfl rfl
theorem w_21 : (Jvm.Cond.classLink "DiagramBench" 9 "[[J") ∈ TT := TT_of 21 (by decide +kernel) rfl
theorem w_23 : (Jvm.Cond.classLink "DiagramBench" 21 "DiagramBench$Diagram") ∈ TT := TT_of 23 (by decide +kernel) rfl
theorem w_24 : (Jvm.Cond.instantiable "DiagramBench$Diagram" 3) ∈ TT := TT_of 24 (by decide +kernel) rfl
theorem w_26 : (Jvm.Cond.instanceMethod (⟨"DiagramBench$Diagram", "<init>", "()V"⟩ : MethodName)) ∈ TT := TT_of 26 (by decide +kernel) rfl
theorem w_27 : (Jvm.Cond.code (⟨"DiagramBench$Diagram", "<init>", "()V"⟩ : MethodName) prog_2_method_1_code 1 (Option.none : Option Jvm.ClassFile.FieldType)) ∈ TT := TT_of 27 rfl rfl
theorem w_28 : (Jvm.Cond.methodLink "DiagramBench$Diagram" 5 (⟨"java/lang/Object", "<init>", "()V"⟩ : MethodName)) ∈ TT := TT_of 28 (by decide +kernel) rfl
theorem w_29 : (Jvm.Cond.fieldLink "DiagramBench$Diagram" 11 "DiagramBench$Diagram" "keys" "[I") ∈ TT := TT_of 29 (by decide +kernel) rfl
theorem w_30 : (Jvm.Cond.fieldLink "DiagramBench$Diagram" 15 "DiagramBench$Diagram" "names" "[I") ∈ TT := TT_of 30 (by decide +kernel) rfl
theorem w_31 : (Jvm.Cond.fieldLink "DiagramBench$Diagram" 18 "DiagramBench$Diagram" "nodeCount" "I") ∈ TT := TT_of 31 (by decide +kernel) rfl
theorem w_33 : (Jvm.Cond.laysFinal "DiagramBench$Diagram" "DiagramBench$Diagram" "keys" "[I") ∈ TT := TT_of 33 (by decide +kernel) rfl
theorem w_34 : (Jvm.Cond.soleField "DiagramBench$Diagram" "keys") ∈ TT := TT_of 34 (by decide +kernel) rfl
theorem w_35 : (Jvm.Cond.laysFinal "DiagramBench$Diagram" "DiagramBench$Diagram" "names" "[I") ∈ TT := TT_of 35 (by decide +kernel) rfl
theorem w_36 : (Jvm.Cond.soleField "DiagramBench$Diagram" "names") ∈ TT := TT_of 36 (by decide +kernel) rfl
theorem w_37 : (Jvm.Cond.lays "DiagramBench$Diagram" "DiagramBench$Diagram" "nodeCount" "I") ∈ TT := TT_of 37 (by decide +kernel) rfl
theorem w_38 : (Jvm.Cond.soleField "DiagramBench$Diagram" "nodeCount") ∈ TT := TT_of 38 (by decide +kernel) rfl
theorem w_39 : (Jvm.Cond.superclass "DiagramBench$Diagram" "java/lang/Object") ∈ TT := TT_of 39 (by decide +kernel) rfl
theorem w_40 : (Jvm.Cond.arrayClass Jvm.ClassFile.FieldType.long) ∈ TT := TT_of 40 (by decide +kernel) rfl
theorem w_41 : (Jvm.Cond.arrayClass Jvm.ClassFile.FieldType.int) ∈ TT := TT_of 41 (by decide +kernel) rfl
theorem w_42 : (Jvm.Cond.fieldLink "DiagramBench" 11 "DiagramBench" "held" "[[J") ∈ TT := TT_of 42 (by decide +kernel) rfl
theorem w_43 : (Jvm.Cond.fieldLink "DiagramBench" 14 "DiagramBench" "work" "[J") ∈ TT := TT_of 43 (by decide +kernel) rfl
theorem w_44 : (Jvm.Cond.fieldLink "DiagramBench" 18 "DiagramBench" "spare" "[J") ∈ TT := TT_of 44 (by decide +kernel) rfl
theorem w_45 : (Jvm.Cond.fieldLink "DiagramBench" 24 "DiagramBench" "diagram" "LDiagramBench$Diagram;") ∈ TT := TT_of 45 (by decide +kernel) rfl
theorem w_46 : (Jvm.Cond.laysFinal "DiagramBench" "DiagramBench" "held" "[[J") ∈ TT := TT_of 46 (by decide +kernel) rfl
theorem w_47 : (Jvm.Cond.soleField "DiagramBench" "held") ∈ TT := TT_of 47 (by decide +kernel) rfl
theorem w_48 : (Jvm.Cond.laysFinal "DiagramBench" "DiagramBench" "work" "[J") ∈ TT := TT_of 48 (by decide +kernel) rfl
theorem w_49 : (Jvm.Cond.soleField "DiagramBench" "work") ∈ TT := TT_of 49 (by decide +kernel) rfl
theorem w_50 : (Jvm.Cond.laysFinal "DiagramBench" "DiagramBench" "spare" "[J") ∈ TT := TT_of 50 (by decide +kernel) rfl
theorem w_51 : (Jvm.Cond.soleField "DiagramBench" "spare") ∈ TT := TT_of 51 (by decide +kernel) rfl
theorem w_52 : (Jvm.Cond.laysFinal "DiagramBench" "DiagramBench" "diagram" "LDiagramBench$Diagram;") ∈ TT := TT_of 52 (by decide +kernel) rfl
theorem w_53 : (Jvm.Cond.soleField "DiagramBench" "diagram") ∈ TT := TT_of 53 (by decide +kernel) rfl
theorem w_54 : (Jvm.Cond.superclass "DiagramBench" "java/lang/Object") ∈ TT := TT_of 54 (by decide +kernel) rfl
theorem w_55 : (Jvm.Cond.methodLink "DiagramBenchLaw" 68 (⟨"DiagramBenchLaw", "variable", "(LDiagramBench;II)I"⟩ : MethodName)) ∈ TT := TT_of 55 (by decide +kernel) rfl
theorem w_56 : (Jvm.Cond.static (⟨"DiagramBenchLaw", "variable", "(LDiagramBench;II)I"⟩ : MethodName)) ∈ TT := TT_of 56 (by decide +kernel) rfl
theorem w_57 : (Jvm.Cond.codeWith (⟨"DiagramBenchLaw", "variable", "(LDiagramBench;II)I"⟩ : MethodName) method_3_code 4 (Option.some Jvm.ClassFile.FieldType.int) [(0, 6, 9, 13)]) ∈ TT := TT_of 57 rfl rfl
theorem w_58 : (Jvm.Cond.classLink "DiagramBenchLaw" 13 "java/lang/IllegalArgumentException") ∈ TT := TT_of 58 (by decide +kernel) rfl
theorem w_59 : (Jvm.Cond.methodLink "DiagramBenchLaw" 7 (⟨"DiagramBench", "variable", "(II)V"⟩ : MethodName)) ∈ TT := TT_of 59 (by decide +kernel) rfl
theorem w_60 : (Jvm.Cond.instanceMethod (⟨"DiagramBench", "variable", "(II)V"⟩ : MethodName)) ∈ TT := TT_of 60 (by decide +kernel) rfl
theorem w_61 : (Jvm.Cond.selects "DiagramBench" (⟨"DiagramBench", "variable", "(II)V"⟩ : MethodName) (⟨"DiagramBench", "variable", "(II)V"⟩ : MethodName)) ∈ TT := TT_of 61 (by decide +kernel) rfl
theorem w_62 : (Jvm.Cond.code (⟨"DiagramBench", "variable", "(II)V"⟩ : MethodName) prog_1_method_2_code 4 (Option.none : Option Jvm.ClassFile.FieldType)) ∈ TT := TT_of 62 rfl rfl
theorem w_63 : (Jvm.Cond.methodLink "DiagramBench" 28 (⟨"DiagramBench", "checkRegister", "(I)V"⟩ : MethodName)) ∈ TT := TT_of 63 (by decide +kernel) rfl
theorem w_64 : (Jvm.Cond.static (⟨"DiagramBench", "checkRegister", "(I)V"⟩ : MethodName)) ∈ TT := TT_of 64 (by decide +kernel) rfl
theorem w_65 : (Jvm.Cond.code (⟨"DiagramBench", "checkRegister", "(I)V"⟩ : MethodName) prog_1_method_17_code 1 (Option.none : Option Jvm.ClassFile.FieldType)) ∈ TT := TT_of 65 rfl rfl
theorem w_66 : (Jvm.Cond.classLink "DiagramBench" 121 "java/lang/IllegalArgumentException") ∈ TT := TT_of 66 (by decide +kernel) rfl
theorem w_67 : (Jvm.Cond.instantiable "java/lang/IllegalArgumentException" 6) ∈ TT := TT_of 67 (by decide +kernel) rfl
theorem w_75 : (Jvm.Cond.selects "java/lang/IllegalArgumentException" (⟨"java/lang/Throwable", "fillInStackTrace", "(I)Ljava/lang/Throwable;"⟩ : MethodName) (⟨"java/lang/Throwable", "fillInStackTrace", "(I)Ljava/lang/Throwable;"⟩ : MethodName)) ∈ TT := TT_of 75 (by decide +kernel) rfl
theorem w_76 : (Jvm.Cond.selects "java/lang/IllegalArgumentException" (⟨"java/lang/Throwable", "fillInStackTrace", "()Ljava/lang/Throwable;"⟩ : MethodName) (⟨"java/lang/Throwable", "fillInStackTrace", "()Ljava/lang/Throwable;"⟩ : MethodName)) ∈ TT := TT_of 76 (by decide +kernel) rfl
theorem w_77 : (Jvm.Cond.lays "java/lang/IllegalArgumentException" "java/lang/Throwable" "cause" "Ljava/lang/Throwable;") ∈ TT := TT_of 77 (by decide +kernel) rfl
theorem w_78 : (Jvm.Cond.lays "java/lang/Throwable" "java/lang/Throwable" "cause" "Ljava/lang/Throwable;") ∈ TT := TT_of 78 (by decide +kernel) rfl
theorem w_79 : (Jvm.Cond.lays "java/lang/IllegalArgumentException" "java/lang/Throwable" "stackTrace" "[Ljava/lang/StackTraceElement;") ∈ TT := TT_of 79 (by decide +kernel) rfl
theorem w_80 : (Jvm.Cond.lays "java/lang/Throwable" "java/lang/Throwable" "stackTrace" "[Ljava/lang/StackTraceElement;") ∈ TT := TT_of 80 (by decide +kernel) rfl
theorem w_81 : (Jvm.Cond.lays "java/lang/IllegalArgumentException" "java/lang/Throwable" "suppressedExceptions" "Ljava/util/List;") ∈ TT := TT_of 81 (by decide +kernel) rfl
theorem w_82 : (Jvm.Cond.lays "java/lang/Throwable" "java/lang/Throwable" "suppressedExceptions" "Ljava/util/List;") ∈ TT := TT_of 82 (by decide +kernel) rfl
theorem w_83 : (Jvm.Cond.lays "java/lang/IllegalArgumentException" "java/lang/Throwable" "detailMessage" "Ljava/lang/String;") ∈ TT := TT_of 83 (by decide +kernel) rfl
theorem w_84 : (Jvm.Cond.lays "java/lang/Throwable" "java/lang/Throwable" "detailMessage" "Ljava/lang/String;") ∈ TT := TT_of 84 (by decide +kernel) rfl
theorem w_85 : (Jvm.Cond.lays "java/lang/IllegalArgumentException" "java/lang/Throwable" "backtrace" "Ljava/lang/Object;") ∈ TT := TT_of 85 (by decide +kernel) rfl
theorem w_86 : (Jvm.Cond.lays "java/lang/Throwable" "java/lang/Throwable" "backtrace" "Ljava/lang/Object;") ∈ TT := TT_of 86 (by decide +kernel) rfl
theorem w_87 : (Jvm.Cond.fieldLink "java/lang/Throwable" 198 "java/lang/Throwable" "backtrace" "Ljava/lang/Object;") ∈ TT := TT_of 87 (by decide +kernel) rfl
theorem w_88 : (Jvm.Cond.superclass "java/lang/Throwable" "java/lang/Object") ∈ TT := TT_of 88 (by decide +kernel) rfl
theorem w_89 : (Jvm.Cond.instanceMethod (⟨"java/lang/Throwable", "<init>", "()V"⟩ : MethodName)) ∈ TT := TT_of 89 (by decide +kernel) rfl
theorem w_90 : (Jvm.Cond.code (⟨"java/lang/Throwable", "<init>", "()V"⟩ : MethodName) prog_12_method_1_code 1 (Option.none : Option Jvm.ClassFile.FieldType)) ∈ TT := TT_of 90 rfl rfl
theorem w_91 : (Jvm.Cond.methodLink "java/lang/Throwable" 1 (⟨"java/lang/Object", "<init>", "()V"⟩ : MethodName)) ∈ TT := TT_of 91 (by decide +kernel) rfl
theorem w_92 : (Jvm.Cond.fieldLink "java/lang/Throwable" 13 "java/lang/Throwable" "UNASSIGNED_STACK" "[Ljava/lang/StackTraceElement;") ∈ TT := TT_of 92 (by decide +kernel) rfl
theorem w_94 : (Jvm.Cond.fieldLink "java/lang/Throwable" 20 "java/lang/Throwable" "SUPPRESSED_SENTINEL" "Ljava/util/List;") ∈ TT := TT_of 94 (by decide +kernel) rfl
theorem w_96 : (Jvm.Cond.methodLink "java/lang/Throwable" 27 (⟨"java/lang/Throwable", "fillInStackTrace", "()Ljava/lang/Throwable;"⟩ : MethodName)) ∈ TT := TT_of 96 (by decide +kernel) rfl
theorem w_97 : (Jvm.Cond.instanceMethod (⟨"java/lang/Throwable", "fillInStackTrace", "()Ljava/lang/Throwable;"⟩ : MethodName)) ∈ TT := TT_of 97 (by decide +kernel) rfl
theorem w_98 : (Jvm.Cond.sameMethod "java/lang/Throwable" "java/lang/Throwable" "fillInStackTrace" "()Ljava/lang/Throwable;") ∈ TT := TT_of 98 (by decide +kernel) rfl
theorem w_99 : (Jvm.Cond.selects "java/util/NoSuchElementException" (⟨"java/lang/Throwable", "fillInStackTrace", "()Ljava/lang/Throwable;"⟩ : MethodName) (⟨"java/lang/Throwable", "fillInStackTrace", "()Ljava/lang/Throwable;"⟩ : MethodName)) ∈ TT := TT_of 99 (by decide +kernel) rfl
theorem w_100 : (Jvm.Cond.codeSync (⟨"java/lang/Throwable", "fillInStackTrace", "()Ljava/lang/Throwable;"⟩ : MethodName) prog_12_method_18_code 1 (Option.some (Jvm.ClassFile.FieldType.object "java/lang/Throwable"))) ∈ TT := TT_of 100 rfl rfl
theorem w_101 : (Jvm.Cond.methodLink "java/lang/Throwable" 202 (⟨"java/lang/Throwable", "fillInStackTrace", "(I)Ljava/lang/Throwable;"⟩ : MethodName)) ∈ TT := TT_of 101 (by decide +kernel) rfl
theorem w_103 : (Jvm.Cond.instanceMethod (⟨"java/lang/Throwable", "fillInStackTrace", "(I)Ljava/lang/Throwable;"⟩ : MethodName)) ∈ TT := TT_of 103 (by decide +kernel) rfl
theorem w_104 : (Jvm.Cond.instantiable "java/lang/Throwable" 6) ∈ TT := TT_of 104 (by decide +kernel) rfl
theorem w_105 : (Jvm.Cond.native (⟨"java/lang/Throwable", "fillInStackTrace", "(I)Ljava/lang/Throwable;"⟩ : MethodName)) ∈ TT := TT_of 105 (by decide +kernel) rfl
theorem w_107 : (Jvm.Cond.methodLink "DiagramBench" 125 (⟨"java/lang/IllegalArgumentException", "<init>", "(Ljava/lang/String;)V"⟩ : MethodName)) ∈ TT := TT_of 107 (by decide +kernel) rfl
theorem w_108 : (Jvm.Cond.instanceMethod (⟨"java/lang/IllegalArgumentException", "<init>", "(Ljava/lang/String;)V"⟩ : MethodName)) ∈ TT := TT_of 108 (by decide +kernel) rfl
theorem w_109 : (Jvm.Cond.code (⟨"java/lang/IllegalArgumentException", "<init>", "(Ljava/lang/String;)V"⟩ : MethodName) prog_6_method_2_code 2 (Option.none : Option Jvm.ClassFile.FieldType)) ∈ TT := TT_of 109 rfl rfl
theorem w_110 : (Jvm.Cond.methodLink "java/lang/IllegalArgumentException" 7 (⟨"java/lang/RuntimeException", "<init>", "(Ljava/lang/String;)V"⟩ : MethodName)) ∈ TT := TT_of 110 (by decide +kernel) rfl
theorem w_111 : (Jvm.Cond.instanceMethod (⟨"java/lang/RuntimeException", "<init>", "(Ljava/lang/String;)V"⟩ : MethodName)) ∈ TT := TT_of 111 (by decide +kernel) rfl
theorem w_112 : (Jvm.Cond.code (⟨"java/lang/RuntimeException", "<init>", "(Ljava/lang/String;)V"⟩ : MethodName) prog_9_method_2_code 2 (Option.none : Option Jvm.ClassFile.FieldType)) ∈ TT := TT_of 112 rfl rfl
theorem w_113 : (Jvm.Cond.methodLink "java/lang/RuntimeException" 7 (⟨"java/lang/Exception", "<init>", "(Ljava/lang/String;)V"⟩ : MethodName)) ∈ TT := TT_of 113 (by decide +kernel) rfl
theorem w_114 : (Jvm.Cond.instanceMethod (⟨"java/lang/Exception", "<init>", "(Ljava/lang/String;)V"⟩ : MethodName)) ∈ TT := TT_of 114 (by decide +kernel) rfl
theorem w_115 : (Jvm.Cond.code (⟨"java/lang/Exception", "<init>", "(Ljava/lang/String;)V"⟩ : MethodName) prog_5_method_2_code 2 (Option.none : Option Jvm.ClassFile.FieldType)) ∈ TT := TT_of 115 rfl rfl
theorem w_116 : (Jvm.Cond.methodLink "java/lang/Exception" 7 (⟨"java/lang/Throwable", "<init>", "(Ljava/lang/String;)V"⟩ : MethodName)) ∈ TT := TT_of 116 (by decide +kernel) rfl
theorem w_117 : (Jvm.Cond.instanceMethod (⟨"java/lang/Throwable", "<init>", "(Ljava/lang/String;)V"⟩ : MethodName)) ∈ TT := TT_of 117 (by decide +kernel) rfl
theorem w_118 : (Jvm.Cond.code (⟨"java/lang/Throwable", "<init>", "(Ljava/lang/String;)V"⟩ : MethodName) prog_12_method_2_code 2 (Option.none : Option Jvm.ClassFile.FieldType)) ∈ TT := TT_of 118 rfl rfl
theorem w_119 : (Jvm.Cond.fieldLink "java/lang/Throwable" 198 "java/lang/Throwable" "backtrace" "Ljava/lang/Object;") ∈ TT := TT_of 119 (by decide +kernel) rfl
theorem w_120 : (Jvm.Cond.fieldLink "java/lang/Throwable" 31 "java/lang/Throwable" "detailMessage" "Ljava/lang/String;") ∈ TT := TT_of 120 (by decide +kernel) rfl
theorem w_121 : (Jvm.Cond.fieldLink "java/lang/Throwable" 7 "java/lang/Throwable" "cause" "Ljava/lang/Throwable;") ∈ TT := TT_of 121 (by decide +kernel) rfl
theorem w_122 : (Jvm.Cond.fieldLink "java/lang/Throwable" 17 "java/lang/Throwable" "stackTrace" "[Ljava/lang/StackTraceElement;") ∈ TT := TT_of 122 (by decide +kernel) rfl
theorem w_123 : (Jvm.Cond.fieldLink "java/lang/Throwable" 24 "java/lang/Throwable" "suppressedExceptions" "Ljava/util/List;") ∈ TT := TT_of 123 (by decide +kernel) rfl
theorem w_124 : (Jvm.Cond.soleField "java/lang/Throwable" "backtrace") ∈ TT := TT_of 124 (by decide +kernel) rfl
theorem w_125 : (Jvm.Cond.soleField "java/lang/Throwable" "detailMessage") ∈ TT := TT_of 125 (by decide +kernel) rfl
theorem w_126 : (Jvm.Cond.soleField "java/lang/Throwable" "cause") ∈ TT := TT_of 126 (by decide +kernel) rfl
theorem w_127 : (Jvm.Cond.soleField "java/lang/Throwable" "stackTrace") ∈ TT := TT_of 127 (by decide +kernel) rfl
theorem w_128 : (Jvm.Cond.lays "java/lang/IllegalArgumentException" "java/lang/Throwable" "depth" "I") ∈ TT := TT_of 128 (by decide +kernel) rfl
theorem w_129 : (Jvm.Cond.soleField "java/lang/Throwable" "depth") ∈ TT := TT_of 129 (by decide +kernel) rfl
theorem w_130 : (Jvm.Cond.soleField "java/lang/Throwable" "suppressedExceptions") ∈ TT := TT_of 130 (by decide +kernel) rfl
theorem w_131 : (Jvm.Cond.superclass "java/lang/IllegalArgumentException" "java/lang/RuntimeException") ∈ TT := TT_of 131 (by decide +kernel) rfl
theorem w_132 : (Jvm.Cond.arrayClass Jvm.ClassFile.FieldType.byte) ∈ TT := TT_of 132 (by decide +kernel) rfl
theorem w_133 : (Jvm.Cond.methodLink "DiagramBench" 32 (⟨"DiagramBench", "checkVariable", "(I)V"⟩ : MethodName)) ∈ TT := TT_of 133 (by decide +kernel) rfl
theorem w_134 : (Jvm.Cond.static (⟨"DiagramBench", "checkVariable", "(I)V"⟩ : MethodName)) ∈ TT := TT_of 134 (by decide +kernel) rfl
theorem w_135 : (Jvm.Cond.code (⟨"DiagramBench", "checkVariable", "(I)V"⟩ : MethodName) prog_1_method_18_code 1 (Option.none : Option Jvm.ClassFile.FieldType)) ∈ TT := TT_of 135 rfl rfl
theorem w_137 : (Jvm.Cond.methodLink "DiagramBench" 35 (⟨"DiagramBench", "variableWord", "(II)J"⟩ : MethodName)) ∈ TT := TT_of 137 (by decide +kernel) rfl
theorem w_138 : (Jvm.Cond.static (⟨"DiagramBench", "variableWord", "(II)J"⟩ : MethodName)) ∈ TT := TT_of 138 (by decide +kernel) rfl
theorem w_139 : (Jvm.Cond.code (⟨"DiagramBench", "variableWord", "(II)J"⟩ : MethodName) prog_1_method_26_code 2 (Option.some Jvm.ClassFile.FieldType.long)) ∈ TT := TT_of 139 rfl rfl
theorem w_140 : (Jvm.Cond.fieldLink "DiagramBench" 138 "DiagramBench" "TRUE_PLACES" "[J") ∈ TT := TT_of 140 (by decide +kernel) rfl
theorem w_142 : (Jvm.Cond.methodLink "DiagramBench" 76 (⟨"DiagramBench", "isIn", "(II)Z"⟩ : MethodName)) ∈ TT := TT_of 142 (by decide +kernel) rfl
theorem w_143 : (Jvm.Cond.static (⟨"DiagramBench", "isIn", "(II)Z"⟩ : MethodName)) ∈ TT := TT_of 143 (by decide +kernel) rfl
theorem w_144 : (Jvm.Cond.code (⟨"DiagramBench", "isIn", "(II)Z"⟩ : MethodName) prog_1_method_22_code 2 (Option.some Jvm.ClassFile.FieldType.boolean)) ∈ TT := TT_of 144 rfl rfl
theorem w_145 : (Jvm.Cond.constantLong "DiagramBench" 136 (-1 : Int64)) ∈ TT := TT_of 145 (by decide +kernel) rfl
theorem w_146 : (Jvm.Cond.methodLink "DiagramBenchLaw" 78 (⟨"DiagramBenchLaw", "only", "(LDiagramBench;II)I"⟩ : MethodName)) ∈ TT := TT_of 146 (by decide +kernel) rfl
theorem w_147 : (Jvm.Cond.static (⟨"DiagramBenchLaw", "only", "(LDiagramBench;II)I"⟩ : MethodName)) ∈ TT := TT_of 147 (by decide +kernel) rfl
theorem w_148 : (Jvm.Cond.codeWith (⟨"DiagramBenchLaw", "only", "(LDiagramBench;II)I"⟩ : MethodName) method_4_code 4 (Option.some Jvm.ClassFile.FieldType.int) [(0, 6, 9, 13)]) ∈ TT := TT_of 148 rfl rfl
theorem w_149 : (Jvm.Cond.methodLink "DiagramBenchLaw" 15 (⟨"DiagramBench", "only", "(II)V"⟩ : MethodName)) ∈ TT := TT_of 149 (by decide +kernel) rfl
theorem w_150 : (Jvm.Cond.instanceMethod (⟨"DiagramBench", "only", "(II)V"⟩ : MethodName)) ∈ TT := TT_of 150 (by decide +kernel) rfl
theorem w_151 : (Jvm.Cond.selects "DiagramBench" (⟨"DiagramBench", "only", "(II)V"⟩ : MethodName) (⟨"DiagramBench", "only", "(II)V"⟩ : MethodName)) ∈ TT := TT_of 151 (by decide +kernel) rfl
theorem w_152 : (Jvm.Cond.code (⟨"DiagramBench", "only", "(II)V"⟩ : MethodName) prog_1_method_3_code 3 (Option.none : Option Jvm.ClassFile.FieldType)) ∈ TT := TT_of 152 rfl rfl
theorem w_153 : (Jvm.Cond.methodLink "DiagramBench" 39 (⟨"DiagramBench", "checkAssignment", "(I)V"⟩ : MethodName)) ∈ TT := TT_of 153 (by decide +kernel) rfl
theorem w_154 : (Jvm.Cond.static (⟨"DiagramBench", "checkAssignment", "(I)V"⟩ : MethodName)) ∈ TT := TT_of 154 (by decide +kernel) rfl
theorem w_155 : (Jvm.Cond.code (⟨"DiagramBench", "checkAssignment", "(I)V"⟩ : MethodName) prog_1_method_19_code 1 (Option.none : Option Jvm.ClassFile.FieldType)) ∈ TT := TT_of 155 rfl rfl
theorem w_157 : (Jvm.Cond.methodLink "DiagramBench" 42 (⟨"java/util/Arrays", "fill", "([JJ)V"⟩ : MethodName)) ∈ TT := TT_of 157 (by decide +kernel) rfl
theorem w_158 : (Jvm.Cond.static (⟨"java/util/Arrays", "fill", "([JJ)V"⟩ : MethodName)) ∈ TT := TT_of 158 (by decide +kernel) rfl
theorem w_159 : (Jvm.Cond.code (⟨"java/util/Arrays", "fill", "([JJ)V"⟩ : MethodName) prog_13_method_101_code 5 (Option.none : Option Jvm.ClassFile.FieldType)) ∈ TT := TT_of 159 rfl rfl
theorem w_160 : (Jvm.Cond.methodLink "DiagramBenchLaw" 81 (⟨"DiagramBenchLaw", "join", "(LDiagramBench;IIII)I"⟩ : MethodName)) ∈ TT := TT_of 160 (by decide +kernel) rfl
theorem w_161 : (Jvm.Cond.static (⟨"DiagramBenchLaw", "join", "(LDiagramBench;IIII)I"⟩ : MethodName)) ∈ TT := TT_of 161 (by decide +kernel) rfl
theorem w_162 : (Jvm.Cond.codeWith (⟨"DiagramBenchLaw", "join", "(LDiagramBench;IIII)I"⟩ : MethodName) method_5_code 6 (Option.some Jvm.ClassFile.FieldType.int) [(0, 9, 12, 13)]) ∈ TT := TT_of 162 rfl rfl
theorem w_163 : (Jvm.Cond.methodLink "DiagramBenchLaw" 18 (⟨"DiagramBench", "join", "(IIII)V"⟩ : MethodName)) ∈ TT := TT_of 163 (by decide +kernel) rfl
theorem w_164 : (Jvm.Cond.instanceMethod (⟨"DiagramBench", "join", "(IIII)V"⟩ : MethodName)) ∈ TT := TT_of 164 (by decide +kernel) rfl
theorem w_165 : (Jvm.Cond.selects "DiagramBench" (⟨"DiagramBench", "join", "(IIII)V"⟩ : MethodName) (⟨"DiagramBench", "join", "(IIII)V"⟩ : MethodName)) ∈ TT := TT_of 165 (by decide +kernel) rfl
theorem w_166 : (Jvm.Cond.code (⟨"DiagramBench", "join", "(IIII)V"⟩ : MethodName) prog_1_method_4_code 6 (Option.none : Option Jvm.ClassFile.FieldType)) ∈ TT := TT_of 166 rfl rfl
theorem w_167 : (Jvm.Cond.methodLink "DiagramBench" 48 (⟨"DiagramBench", "checkKind", "(I)V"⟩ : MethodName)) ∈ TT := TT_of 167 (by decide +kernel) rfl
theorem w_168 : (Jvm.Cond.static (⟨"DiagramBench", "checkKind", "(I)V"⟩ : MethodName)) ∈ TT := TT_of 168 (by decide +kernel) rfl
theorem w_169 : (Jvm.Cond.code (⟨"DiagramBench", "checkKind", "(I)V"⟩ : MethodName) prog_1_method_21_code 1 (Option.none : Option Jvm.ClassFile.FieldType)) ∈ TT := TT_of 169 rfl rfl
theorem w_171 : (Jvm.Cond.methodLink "DiagramBench" 51 (⟨"DiagramBench", "joinedWord", "(IJJ)J"⟩ : MethodName)) ∈ TT := TT_of 171 (by decide +kernel) rfl
theorem w_172 : (Jvm.Cond.static (⟨"DiagramBench", "joinedWord", "(IJJ)J"⟩ : MethodName)) ∈ TT := TT_of 172 (by decide +kernel) rfl
theorem w_173 : (Jvm.Cond.code (⟨"DiagramBench", "joinedWord", "(IJJ)J"⟩ : MethodName) prog_1_method_24_code 5 (Option.some Jvm.ClassFile.FieldType.long)) ∈ TT := TT_of 173 rfl rfl
theorem w_174 : (Jvm.Cond.methodLink "DiagramBenchLaw" 85 (⟨"DiagramBenchLaw", "choose", "(LDiagramBench;IIII)I"⟩ : MethodName)) ∈ TT := TT_of 174 (by decide +kernel) rfl
theorem w_175 : (Jvm.Cond.static (⟨"DiagramBenchLaw", "choose", "(LDiagramBench;IIII)I"⟩ : MethodName)) ∈ TT := TT_of 175 (by decide +kernel) rfl
theorem w_176 : (Jvm.Cond.codeWith (⟨"DiagramBenchLaw", "choose", "(LDiagramBench;IIII)I"⟩ : MethodName) method_6_code 6 (Option.some Jvm.ClassFile.FieldType.int) [(0, 9, 12, 13)]) ∈ TT := TT_of 176 rfl rfl
theorem w_177 : (Jvm.Cond.methodLink "DiagramBenchLaw" 22 (⟨"DiagramBench", "choose", "(IIII)V"⟩ : MethodName)) ∈ TT := TT_of 177 (by decide +kernel) rfl
theorem w_178 : (Jvm.Cond.instanceMethod (⟨"DiagramBench", "choose", "(IIII)V"⟩ : MethodName)) ∈ TT := TT_of 178 (by decide +kernel) rfl
theorem w_179 : (Jvm.Cond.selects "DiagramBench" (⟨"DiagramBench", "choose", "(IIII)V"⟩ : MethodName) (⟨"DiagramBench", "choose", "(IIII)V"⟩ : MethodName)) ∈ TT := TT_of 179 (by decide +kernel) rfl
theorem w_180 : (Jvm.Cond.code (⟨"DiagramBench", "choose", "(IIII)V"⟩ : MethodName) prog_1_method_5_code 6 (Option.none : Option Jvm.ClassFile.FieldType)) ∈ TT := TT_of 180 rfl rfl
theorem w_181 : (Jvm.Cond.methodLink "DiagramBench" 55 (⟨"DiagramBench", "chosenWord", "(JJJ)J"⟩ : MethodName)) ∈ TT := TT_of 181 (by decide +kernel) rfl
theorem w_182 : (Jvm.Cond.static (⟨"DiagramBench", "chosenWord", "(JJJ)J"⟩ : MethodName)) ∈ TT := TT_of 182 (by decide +kernel) rfl
theorem w_183 : (Jvm.Cond.code (⟨"DiagramBench", "chosenWord", "(JJJ)J"⟩ : MethodName) prog_1_method_25_code 6 (Option.some Jvm.ClassFile.FieldType.long)) ∈ TT := TT_of 183 rfl rfl
theorem w_184 : (Jvm.Cond.methodLink "DiagramBenchLaw" 88 (⟨"DiagramBenchLaw", "cut", "(LDiagramBench;IIIZ)I"⟩ : MethodName)) ∈ TT := TT_of 184 (by decide +kernel) rfl
theorem w_185 : (Jvm.Cond.static (⟨"DiagramBenchLaw", "cut", "(LDiagramBench;IIIZ)I"⟩ : MethodName)) ∈ TT := TT_of 185 (by decide +kernel) rfl
theorem w_186 : (Jvm.Cond.codeWith (⟨"DiagramBenchLaw", "cut", "(LDiagramBench;IIIZ)I"⟩ : MethodName) method_7_code 6 (Option.some Jvm.ClassFile.FieldType.int) [(0, 9, 12, 13)]) ∈ TT := TT_of 186 rfl rfl
theorem w_187 : (Jvm.Cond.methodLink "DiagramBenchLaw" 25 (⟨"DiagramBench", "cut", "(IIIZ)V"⟩ : MethodName)) ∈ TT := TT_of 187 (by decide +kernel) rfl
theorem w_188 : (Jvm.Cond.instanceMethod (⟨"DiagramBench", "cut", "(IIIZ)V"⟩ : MethodName)) ∈ TT := TT_of 188 (by decide +kernel) rfl
theorem w_189 : (Jvm.Cond.selects "DiagramBench" (⟨"DiagramBench", "cut", "(IIIZ)V"⟩ : MethodName) (⟨"DiagramBench", "cut", "(IIIZ)V"⟩ : MethodName)) ∈ TT := TT_of 189 (by decide +kernel) rfl
theorem w_190 : (Jvm.Cond.code (⟨"DiagramBench", "cut", "(IIIZ)V"⟩ : MethodName) prog_1_method_6_code 6 (Option.none : Option Jvm.ClassFile.FieldType)) ∈ TT := TT_of 190 rfl rfl
theorem w_191 : (Jvm.Cond.methodLink "DiagramBench" 59 (⟨"DiagramBench", "fixedWord", "([JIZI)J"⟩ : MethodName)) ∈ TT := TT_of 191 (by decide +kernel) rfl
theorem w_192 : (Jvm.Cond.static (⟨"DiagramBench", "fixedWord", "([JIZI)J"⟩ : MethodName)) ∈ TT := TT_of 192 (by decide +kernel) rfl
theorem w_193 : (Jvm.Cond.code (⟨"DiagramBench", "fixedWord", "([JIZI)J"⟩ : MethodName) prog_1_method_28_code 6 (Option.some Jvm.ClassFile.FieldType.long)) ∈ TT := TT_of 193 rfl rfl
theorem w_194 : (Jvm.Cond.methodLink "DiagramBench" 84 (⟨"DiagramBench", "turnedWord", "([JII)J"⟩ : MethodName)) ∈ TT := TT_of 194 (by decide +kernel) rfl
theorem w_195 : (Jvm.Cond.static (⟨"DiagramBench", "turnedWord", "([JII)J"⟩ : MethodName)) ∈ TT := TT_of 195 (by decide +kernel) rfl
theorem w_196 : (Jvm.Cond.code (⟨"DiagramBench", "turnedWord", "([JII)J"⟩ : MethodName) prog_1_method_27_code 6 (Option.some Jvm.ClassFile.FieldType.long)) ∈ TT := TT_of 196 rfl rfl
theorem w_197 : (Jvm.Cond.methodLink "DiagramBench" 63 (⟨"DiagramBench", "store", "([JI)V"⟩ : MethodName)) ∈ TT := TT_of 197 (by decide +kernel) rfl
theorem w_199 : (Jvm.Cond.instanceMethod (⟨"DiagramBench", "store", "([JI)V"⟩ : MethodName)) ∈ TT := TT_of 199 (by decide +kernel) rfl
theorem w_200 : (Jvm.Cond.code (⟨"DiagramBench", "store", "([JI)V"⟩ : MethodName) prog_1_method_30_code 3 (Option.none : Option Jvm.ClassFile.FieldType)) ∈ TT := TT_of 200 rfl rfl
theorem w_201 : (Jvm.Cond.methodLink "DiagramBench" 70 (⟨"java/lang/System", "arraycopy", "(Ljava/lang/Object;ILjava/lang/Object;II)V"⟩ : MethodName)) ∈ TT := TT_of 201 (by decide +kernel) rfl
theorem w_202 : (Jvm.Cond.static (⟨"java/lang/System", "arraycopy", "(Ljava/lang/Object;ILjava/lang/Object;II)V"⟩ : MethodName)) ∈ TT := TT_of 202 (by decide +kernel) rfl
theorem w_203 : (Jvm.Cond.native (⟨"java/lang/System", "arraycopy", "(Ljava/lang/Object;ILjava/lang/Object;II)V"⟩ : MethodName)) ∈ TT := TT_of 203 (by decide +kernel) rfl
theorem w_204 : (Jvm.Cond.methodLink "DiagramBenchLaw" 92 (⟨"DiagramBenchLaw", "put", "(LDiagramBench;IIII)I"⟩ : MethodName)) ∈ TT := TT_of 204 (by decide +kernel) rfl
theorem w_205 : (Jvm.Cond.static (⟨"DiagramBenchLaw", "put", "(LDiagramBench;IIII)I"⟩ : MethodName)) ∈ TT := TT_of 205 (by decide +kernel) rfl
theorem w_206 : (Jvm.Cond.codeWith (⟨"DiagramBenchLaw", "put", "(LDiagramBench;IIII)I"⟩ : MethodName) method_8_code 6 (Option.some Jvm.ClassFile.FieldType.int) [(0, 9, 12, 13)]) ∈ TT := TT_of 206 rfl rfl
theorem w_207 : (Jvm.Cond.methodLink "DiagramBenchLaw" 29 (⟨"DiagramBench", "put", "(IIII)V"⟩ : MethodName)) ∈ TT := TT_of 207 (by decide +kernel) rfl
theorem w_208 : (Jvm.Cond.instanceMethod (⟨"DiagramBench", "put", "(IIII)V"⟩ : MethodName)) ∈ TT := TT_of 208 (by decide +kernel) rfl
theorem w_209 : (Jvm.Cond.selects "DiagramBench" (⟨"DiagramBench", "put", "(IIII)V"⟩ : MethodName) (⟨"DiagramBench", "put", "(IIII)V"⟩ : MethodName)) ∈ TT := TT_of 209 (by decide +kernel) rfl
theorem w_210 : (Jvm.Cond.code (⟨"DiagramBench", "put", "(IIII)V"⟩ : MethodName) prog_1_method_7_code 10 (Option.none : Option Jvm.ClassFile.FieldType)) ∈ TT := TT_of 210 rfl rfl
theorem w_211 : (Jvm.Cond.methodLink "DiagramBenchLaw" 95 (⟨"DiagramBenchLaw", "bound", "(LDiagramBench;IIIZ)I"⟩ : MethodName)) ∈ TT := TT_of 211 (by decide +kernel) rfl
theorem w_212 : (Jvm.Cond.static (⟨"DiagramBenchLaw", "bound", "(LDiagramBench;IIIZ)I"⟩ : MethodName)) ∈ TT := TT_of 212 (by decide +kernel) rfl
theorem w_213 : (Jvm.Cond.codeWith (⟨"DiagramBenchLaw", "bound", "(LDiagramBench;IIIZ)I"⟩ : MethodName) method_9_code 6 (Option.some Jvm.ClassFile.FieldType.int) [(0, 9, 12, 13)]) ∈ TT := TT_of 213 rfl rfl
theorem w_214 : (Jvm.Cond.methodLink "DiagramBenchLaw" 32 (⟨"DiagramBench", "bound", "(IIIZ)V"⟩ : MethodName)) ∈ TT := TT_of 214 (by decide +kernel) rfl
theorem w_215 : (Jvm.Cond.instanceMethod (⟨"DiagramBench", "bound", "(IIIZ)V"⟩ : MethodName)) ∈ TT := TT_of 215 (by decide +kernel) rfl
theorem w_216 : (Jvm.Cond.selects "DiagramBench" (⟨"DiagramBench", "bound", "(IIIZ)V"⟩ : MethodName) (⟨"DiagramBench", "bound", "(IIIZ)V"⟩ : MethodName)) ∈ TT := TT_of 216 (by decide +kernel) rfl
theorem w_217 : (Jvm.Cond.code (⟨"DiagramBench", "bound", "(IIIZ)V"⟩ : MethodName) prog_1_method_8_code 6 (Option.none : Option Jvm.ClassFile.FieldType)) ∈ TT := TT_of 217 rfl rfl
theorem w_218 : (Jvm.Cond.methodLink "DiagramBench" 67 (⟨"DiagramBench", "checkSet", "(I)V"⟩ : MethodName)) ∈ TT := TT_of 218 (by decide +kernel) rfl
theorem w_219 : (Jvm.Cond.static (⟨"DiagramBench", "checkSet", "(I)V"⟩ : MethodName)) ∈ TT := TT_of 219 (by decide +kernel) rfl
theorem w_220 : (Jvm.Cond.code (⟨"DiagramBench", "checkSet", "(I)V"⟩ : MethodName) prog_1_method_20_code 1 (Option.none : Option Jvm.ClassFile.FieldType)) ∈ TT := TT_of 220 rfl rfl
theorem w_222 : (Jvm.Cond.methodLink "DiagramBench" 80 (⟨"DiagramBench", "bindWork", "(IZ)V"⟩ : MethodName)) ∈ TT := TT_of 222 (by decide +kernel) rfl
theorem w_224 : (Jvm.Cond.instanceMethod (⟨"DiagramBench", "bindWork", "(IZ)V"⟩ : MethodName)) ∈ TT := TT_of 224 (by decide +kernel) rfl
theorem w_225 : (Jvm.Cond.code (⟨"DiagramBench", "bindWork", "(IZ)V"⟩ : MethodName) prog_1_method_31_code 6 (Option.none : Option Jvm.ClassFile.FieldType)) ∈ TT := TT_of 225 rfl rfl
theorem w_226 : (Jvm.Cond.methodLink "DiagramBenchLaw" 98 (⟨"DiagramBenchLaw", "swap", "(LDiagramBench;IIII)I"⟩ : MethodName)) ∈ TT := TT_of 226 (by decide +kernel) rfl
theorem w_227 : (Jvm.Cond.static (⟨"DiagramBenchLaw", "swap", "(LDiagramBench;IIII)I"⟩ : MethodName)) ∈ TT := TT_of 227 (by decide +kernel) rfl
theorem w_228 : (Jvm.Cond.codeWith (⟨"DiagramBenchLaw", "swap", "(LDiagramBench;IIII)I"⟩ : MethodName) method_10_code 6 (Option.some Jvm.ClassFile.FieldType.int) [(0, 9, 12, 13)]) ∈ TT := TT_of 228 rfl rfl
theorem w_229 : (Jvm.Cond.methodLink "DiagramBenchLaw" 35 (⟨"DiagramBench", "swap", "(IIII)V"⟩ : MethodName)) ∈ TT := TT_of 229 (by decide +kernel) rfl
theorem w_230 : (Jvm.Cond.instanceMethod (⟨"DiagramBench", "swap", "(IIII)V"⟩ : MethodName)) ∈ TT := TT_of 230 (by decide +kernel) rfl
theorem w_231 : (Jvm.Cond.selects "DiagramBench" (⟨"DiagramBench", "swap", "(IIII)V"⟩ : MethodName) (⟨"DiagramBench", "swap", "(IIII)V"⟩ : MethodName)) ∈ TT := TT_of 231 (by decide +kernel) rfl
theorem w_232 : (Jvm.Cond.code (⟨"DiagramBench", "swap", "(IIII)V"⟩ : MethodName) prog_1_method_9_code 8 (Option.none : Option Jvm.ClassFile.FieldType)) ∈ TT := TT_of 232 rfl rfl
theorem w_233 : (Jvm.Cond.methodLink "DiagramBenchLaw" 101 (⟨"DiagramBenchLaw", "is", "(LDiagramBench;II[J)I"⟩ : MethodName)) ∈ TT := TT_of 233 (by decide +kernel) rfl
theorem w_234 : (Jvm.Cond.static (⟨"DiagramBenchLaw", "is", "(LDiagramBench;II[J)I"⟩ : MethodName)) ∈ TT := TT_of 234 (by decide +kernel) rfl
theorem w_235 : (Jvm.Cond.codeWith (⟨"DiagramBenchLaw", "is", "(LDiagramBench;II[J)I"⟩ : MethodName) method_11_code 5 (Option.some Jvm.ClassFile.FieldType.int) [(0, 17, 20, 13)]) ∈ TT := TT_of 235 rfl rfl
theorem w_236 : (Jvm.Cond.methodLink "DiagramBenchLaw" 38 (⟨"DiagramBench", "is", "(II)Z"⟩ : MethodName)) ∈ TT := TT_of 236 (by decide +kernel) rfl
theorem w_237 : (Jvm.Cond.instanceMethod (⟨"DiagramBench", "is", "(II)Z"⟩ : MethodName)) ∈ TT := TT_of 237 (by decide +kernel) rfl
theorem w_238 : (Jvm.Cond.selects "DiagramBench" (⟨"DiagramBench", "is", "(II)Z"⟩ : MethodName) (⟨"DiagramBench", "is", "(II)Z"⟩ : MethodName)) ∈ TT := TT_of 238 (by decide +kernel) rfl
theorem w_239 : (Jvm.Cond.code (⟨"DiagramBench", "is", "(II)Z"⟩ : MethodName) prog_1_method_10_code 3 (Option.some Jvm.ClassFile.FieldType.boolean)) ∈ TT := TT_of 239 rfl rfl
theorem w_240 : (Jvm.Cond.methodLink "DiagramBench" 88 (⟨"DiagramBench", "bitOf", "([JI)I"⟩ : MethodName)) ∈ TT := TT_of 240 (by decide +kernel) rfl
theorem w_241 : (Jvm.Cond.static (⟨"DiagramBench", "bitOf", "([JI)I"⟩ : MethodName)) ∈ TT := TT_of 241 (by decide +kernel) rfl
theorem w_242 : (Jvm.Cond.code (⟨"DiagramBench", "bitOf", "([JI)I"⟩ : MethodName) prog_1_method_23_code 4 (Option.some Jvm.ClassFile.FieldType.int)) ∈ TT := TT_of 242 rfl rfl
theorem w_243 : (Jvm.Cond.methodLink "DiagramBenchLaw" 105 (⟨"DiagramBenchLaw", "ways", "(LDiagramBench;I[J)I"⟩ : MethodName)) ∈ TT := TT_of 243 (by decide +kernel) rfl
theorem w_244 : (Jvm.Cond.static (⟨"DiagramBenchLaw", "ways", "(LDiagramBench;I[J)I"⟩ : MethodName)) ∈ TT := TT_of 244 (by decide +kernel) rfl
theorem w_245 : (Jvm.Cond.codeWith (⟨"DiagramBenchLaw", "ways", "(LDiagramBench;I[J)I"⟩ : MethodName) method_12_code 4 (Option.some Jvm.ClassFile.FieldType.int) [(0, 9, 12, 13)]) ∈ TT := TT_of 245 rfl rfl
theorem w_246 : (Jvm.Cond.methodLink "DiagramBenchLaw" 42 (⟨"DiagramBench", "ways", "(I)I"⟩ : MethodName)) ∈ TT := TT_of 246 (by decide +kernel) rfl
theorem w_247 : (Jvm.Cond.instanceMethod (⟨"DiagramBench", "ways", "(I)I"⟩ : MethodName)) ∈ TT := TT_of 247 (by decide +kernel) rfl
theorem w_248 : (Jvm.Cond.selects "DiagramBench" (⟨"DiagramBench", "ways", "(I)I"⟩ : MethodName) (⟨"DiagramBench", "ways", "(I)I"⟩ : MethodName)) ∈ TT := TT_of 248 (by decide +kernel) rfl
theorem w_249 : (Jvm.Cond.code (⟨"DiagramBench", "ways", "(I)I"⟩ : MethodName) prog_1_method_11_code 4 (Option.some Jvm.ClassFile.FieldType.int)) ∈ TT := TT_of 249 rfl rfl
theorem w_250 : (Jvm.Cond.methodLink "DiagramBench" 92 (⟨"java/lang/Long", "bitCount", "(J)I"⟩ : MethodName)) ∈ TT := TT_of 250 (by decide +kernel) rfl
theorem w_251 : (Jvm.Cond.static (⟨"java/lang/Long", "bitCount", "(J)I"⟩ : MethodName)) ∈ TT := TT_of 251 (by decide +kernel) rfl
theorem w_252 : (Jvm.Cond.code (⟨"java/lang/Long", "bitCount", "(J)I"⟩ : MethodName) prog_7_method_50_code 2 (Option.some Jvm.ClassFile.FieldType.int)) ∈ TT := TT_of 252 rfl rfl
theorem w_253 : (Jvm.Cond.constantLong "java/lang/Long" 314 (6148914691236517205 : Int64)) ∈ TT := TT_of 253 (by decide +kernel) rfl
theorem w_254 : (Jvm.Cond.constantLong "java/lang/Long" 316 (3689348814741910323 : Int64)) ∈ TT := TT_of 254 (by decide +kernel) rfl
theorem w_255 : (Jvm.Cond.constantLong "java/lang/Long" 318 (1085102592571150095 : Int64)) ∈ TT := TT_of 255 (by decide +kernel) rfl
theorem w_256 : (Jvm.Cond.methodLink "DiagramBenchLaw" 109 (⟨"DiagramBenchLaw", "first", "(LDiagramBench;I[J)I"⟩ : MethodName)) ∈ TT := TT_of 256 (by decide +kernel) rfl
theorem w_257 : (Jvm.Cond.static (⟨"DiagramBenchLaw", "first", "(LDiagramBench;I[J)I"⟩ : MethodName)) ∈ TT := TT_of 257 (by decide +kernel) rfl
theorem w_258 : (Jvm.Cond.codeWith (⟨"DiagramBenchLaw", "first", "(LDiagramBench;I[J)I"⟩ : MethodName) method_13_code 4 (Option.some Jvm.ClassFile.FieldType.int) [(0, 9, 12, 13), (0, 9, 15, 49)]) ∈ TT := TT_of 258 rfl rfl
theorem w_259 : (Jvm.Cond.classLink "DiagramBenchLaw" 49 "java/util/NoSuchElementException") ∈ TT := TT_of 259 (by decide +kernel) rfl
theorem w_260 : (Jvm.Cond.methodLink "DiagramBenchLaw" 46 (⟨"DiagramBench", "first", "(I)I"⟩ : MethodName)) ∈ TT := TT_of 260 (by decide +kernel) rfl
theorem w_261 : (Jvm.Cond.instanceMethod (⟨"DiagramBench", "first", "(I)I"⟩ : MethodName)) ∈ TT := TT_of 261 (by decide +kernel) rfl
theorem w_262 : (Jvm.Cond.selects "DiagramBench" (⟨"DiagramBench", "first", "(I)I"⟩ : MethodName) (⟨"DiagramBench", "first", "(I)I"⟩ : MethodName)) ∈ TT := TT_of 262 (by decide +kernel) rfl
theorem w_263 : (Jvm.Cond.code (⟨"DiagramBench", "first", "(I)I"⟩ : MethodName) prog_1_method_12_code 4 (Option.some Jvm.ClassFile.FieldType.int)) ∈ TT := TT_of 263 rfl rfl
theorem w_264 : (Jvm.Cond.methodLink "DiagramBench" 98 (⟨"DiagramBench", "isEmptyWork", "()Z"⟩ : MethodName)) ∈ TT := TT_of 264 (by decide +kernel) rfl
theorem w_266 : (Jvm.Cond.instanceMethod (⟨"DiagramBench", "isEmptyWork", "()Z"⟩ : MethodName)) ∈ TT := TT_of 266 (by decide +kernel) rfl
theorem w_267 : (Jvm.Cond.code (⟨"DiagramBench", "isEmptyWork", "()Z"⟩ : MethodName) prog_1_method_32_code 2 (Option.some Jvm.ClassFile.FieldType.boolean)) ∈ TT := TT_of 267 rfl rfl
theorem w_268 : (Jvm.Cond.classLink "DiagramBench" 102 "java/util/NoSuchElementException") ∈ TT := TT_of 268 (by decide +kernel) rfl
theorem w_269 : (Jvm.Cond.instantiable "java/util/NoSuchElementException" 6) ∈ TT := TT_of 269 (by decide +kernel) rfl
theorem w_271 : (Jvm.Cond.selects "java/util/NoSuchElementException" (⟨"java/lang/Throwable", "fillInStackTrace", "(I)Ljava/lang/Throwable;"⟩ : MethodName) (⟨"java/lang/Throwable", "fillInStackTrace", "(I)Ljava/lang/Throwable;"⟩ : MethodName)) ∈ TT := TT_of 271 (by decide +kernel) rfl
theorem w_272 : (Jvm.Cond.lays "java/util/NoSuchElementException" "java/lang/Throwable" "cause" "Ljava/lang/Throwable;") ∈ TT := TT_of 272 (by decide +kernel) rfl
theorem w_273 : (Jvm.Cond.lays "java/util/NoSuchElementException" "java/lang/Throwable" "stackTrace" "[Ljava/lang/StackTraceElement;") ∈ TT := TT_of 273 (by decide +kernel) rfl
theorem w_274 : (Jvm.Cond.lays "java/util/NoSuchElementException" "java/lang/Throwable" "suppressedExceptions" "Ljava/util/List;") ∈ TT := TT_of 274 (by decide +kernel) rfl
theorem w_275 : (Jvm.Cond.lays "java/util/NoSuchElementException" "java/lang/Throwable" "detailMessage" "Ljava/lang/String;") ∈ TT := TT_of 275 (by decide +kernel) rfl
theorem w_276 : (Jvm.Cond.lays "java/util/NoSuchElementException" "java/lang/Throwable" "backtrace" "Ljava/lang/Object;") ∈ TT := TT_of 276 (by decide +kernel) rfl
theorem w_278 : (Jvm.Cond.methodLink "DiagramBench" 106 (⟨"java/util/NoSuchElementException", "<init>", "(Ljava/lang/String;)V"⟩ : MethodName)) ∈ TT := TT_of 278 (by decide +kernel) rfl
theorem w_279 : (Jvm.Cond.instanceMethod (⟨"java/util/NoSuchElementException", "<init>", "(Ljava/lang/String;)V"⟩ : MethodName)) ∈ TT := TT_of 279 (by decide +kernel) rfl
theorem w_280 : (Jvm.Cond.code (⟨"java/util/NoSuchElementException", "<init>", "(Ljava/lang/String;)V"⟩ : MethodName) prog_14_method_4_code 2 (Option.none : Option Jvm.ClassFile.FieldType)) ∈ TT := TT_of 280 rfl rfl
theorem w_281 : (Jvm.Cond.methodLink "java/util/NoSuchElementException" 13 (⟨"java/lang/RuntimeException", "<init>", "(Ljava/lang/String;)V"⟩ : MethodName)) ∈ TT := TT_of 281 (by decide +kernel) rfl
theorem w_282 : (Jvm.Cond.lays "java/util/NoSuchElementException" "java/lang/Throwable" "depth" "I") ∈ TT := TT_of 282 (by decide +kernel) rfl
theorem w_283 : (Jvm.Cond.superclass "java/util/NoSuchElementException" "java/lang/RuntimeException") ∈ TT := TT_of 283 (by decide +kernel) rfl
theorem w_284 : (Jvm.Cond.methodLink "DiagramBench" 109 (⟨"DiagramBench", "narrowWorkToFalse", "(I)Z"⟩ : MethodName)) ∈ TT := TT_of 284 (by decide +kernel) rfl
theorem w_286 : (Jvm.Cond.instanceMethod (⟨"DiagramBench", "narrowWorkToFalse", "(I)Z"⟩ : MethodName)) ∈ TT := TT_of 286 (by decide +kernel) rfl
theorem w_287 : (Jvm.Cond.code (⟨"DiagramBench", "narrowWorkToFalse", "(I)Z"⟩ : MethodName) prog_1_method_33_code 5 (Option.some Jvm.ClassFile.FieldType.boolean)) ∈ TT := TT_of 287 rfl rfl
theorem w_288 : (Jvm.Cond.methodLink "DiagramBenchLaw" 112 (⟨"DiagramBenchLaw", "hangs", "(LDiagramBench;I[J)I"⟩ : MethodName)) ∈ TT := TT_of 288 (by decide +kernel) rfl
theorem w_289 : (Jvm.Cond.static (⟨"DiagramBenchLaw", "hangs", "(LDiagramBench;I[J)I"⟩ : MethodName)) ∈ TT := TT_of 289 (by decide +kernel) rfl
theorem w_290 : (Jvm.Cond.codeWith (⟨"DiagramBenchLaw", "hangs", "(LDiagramBench;I[J)I"⟩ : MethodName) method_14_code 4 (Option.some Jvm.ClassFile.FieldType.int) [(0, 9, 12, 13)]) ∈ TT := TT_of 290 rfl rfl
theorem w_291 : (Jvm.Cond.methodLink "DiagramBenchLaw" 51 (⟨"DiagramBench", "hangs", "(I)I"⟩ : MethodName)) ∈ TT := TT_of 291 (by decide +kernel) rfl
theorem w_292 : (Jvm.Cond.instanceMethod (⟨"DiagramBench", "hangs", "(I)I"⟩ : MethodName)) ∈ TT := TT_of 292 (by decide +kernel) rfl
theorem w_293 : (Jvm.Cond.selects "DiagramBench" (⟨"DiagramBench", "hangs", "(I)I"⟩ : MethodName) (⟨"DiagramBench", "hangs", "(I)I"⟩ : MethodName)) ∈ TT := TT_of 293 (by decide +kernel) rfl
theorem w_294 : (Jvm.Cond.code (⟨"DiagramBench", "hangs", "(I)I"⟩ : MethodName) prog_1_method_13_code 4 (Option.some Jvm.ClassFile.FieldType.int)) ∈ TT := TT_of 294 rfl rfl
theorem w_295 : (Jvm.Cond.methodLink "DiagramBench" 113 (⟨"DiagramBench", "hangsOn", "([JI)Z"⟩ : MethodName)) ∈ TT := TT_of 295 (by decide +kernel) rfl
theorem w_296 : (Jvm.Cond.static (⟨"DiagramBench", "hangsOn", "([JI)Z"⟩ : MethodName)) ∈ TT := TT_of 296 (by decide +kernel) rfl
theorem w_297 : (Jvm.Cond.code (⟨"DiagramBench", "hangsOn", "([JI)Z"⟩ : MethodName) prog_1_method_29_code 3 (Option.some Jvm.ClassFile.FieldType.boolean)) ∈ TT := TT_of 297 rfl rfl
theorem w_298 : (Jvm.Cond.methodLink "DiagramBenchLaw" 115 (⟨"DiagramBenchLaw", "same", "(LDiagramBench;II[J)I"⟩ : MethodName)) ∈ TT := TT_of 298 (by decide +kernel) rfl
theorem w_299 : (Jvm.Cond.static (⟨"DiagramBenchLaw", "same", "(LDiagramBench;II[J)I"⟩ : MethodName)) ∈ TT := TT_of 299 (by decide +kernel) rfl
theorem w_300 : (Jvm.Cond.codeWith (⟨"DiagramBenchLaw", "same", "(LDiagramBench;II[J)I"⟩ : MethodName) method_15_code 5 (Option.some Jvm.ClassFile.FieldType.int) [(0, 17, 20, 13)]) ∈ TT := TT_of 300 rfl rfl
theorem w_301 : (Jvm.Cond.methodLink "DiagramBenchLaw" 54 (⟨"DiagramBench", "same", "(II)Z"⟩ : MethodName)) ∈ TT := TT_of 301 (by decide +kernel) rfl
theorem w_302 : (Jvm.Cond.instanceMethod (⟨"DiagramBench", "same", "(II)Z"⟩ : MethodName)) ∈ TT := TT_of 302 (by decide +kernel) rfl
theorem w_303 : (Jvm.Cond.selects "DiagramBench" (⟨"DiagramBench", "same", "(II)Z"⟩ : MethodName) (⟨"DiagramBench", "same", "(II)Z"⟩ : MethodName)) ∈ TT := TT_of 303 (by decide +kernel) rfl
theorem w_304 : (Jvm.Cond.code (⟨"DiagramBench", "same", "(II)Z"⟩ : MethodName) prog_1_method_14_code 4 (Option.some Jvm.ClassFile.FieldType.boolean)) ∈ TT := TT_of 304 rfl rfl
theorem w_305 : (Jvm.Cond.methodLink "DiagramBenchLaw" 118 (⟨"DiagramBenchLaw", "parts", "(LDiagramBench;I[J)I"⟩ : MethodName)) ∈ TT := TT_of 305 (by decide +kernel) rfl
theorem w_306 : (Jvm.Cond.static (⟨"DiagramBenchLaw", "parts", "(LDiagramBench;I[J)I"⟩ : MethodName)) ∈ TT := TT_of 306 (by decide +kernel) rfl
theorem w_307 : (Jvm.Cond.codeWith (⟨"DiagramBenchLaw", "parts", "(LDiagramBench;I[J)I"⟩ : MethodName) method_16_code 4 (Option.some Jvm.ClassFile.FieldType.int) [(0, 9, 12, 13)]) ∈ TT := TT_of 307 rfl rfl
theorem w_308 : (Jvm.Cond.methodLink "DiagramBenchLaw" 57 (⟨"DiagramBench", "parts", "(I)I"⟩ : MethodName)) ∈ TT := TT_of 308 (by decide +kernel) rfl
theorem w_309 : (Jvm.Cond.instanceMethod (⟨"DiagramBench", "parts", "(I)I"⟩ : MethodName)) ∈ TT := TT_of 309 (by decide +kernel) rfl
theorem w_310 : (Jvm.Cond.selects "DiagramBench" (⟨"DiagramBench", "parts", "(I)I"⟩ : MethodName) (⟨"DiagramBench", "parts", "(I)I"⟩ : MethodName)) ∈ TT := TT_of 310 (by decide +kernel) rfl
theorem w_311 : (Jvm.Cond.code (⟨"DiagramBench", "parts", "(I)I"⟩ : MethodName) prog_1_method_15_code 2 (Option.some Jvm.ClassFile.FieldType.int)) ∈ TT := TT_of 311 rfl rfl
theorem w_312 : (Jvm.Cond.methodLink "DiagramBench" 117 (⟨"DiagramBench", "countNodes", "(II)I"⟩ : MethodName)) ∈ TT := TT_of 312 (by decide +kernel) rfl
theorem w_314 : (Jvm.Cond.instanceMethod (⟨"DiagramBench", "countNodes", "(II)I"⟩ : MethodName)) ∈ TT := TT_of 314 (by decide +kernel) rfl
theorem w_315 : (Jvm.Cond.code (⟨"DiagramBench", "countNodes", "(II)I"⟩ : MethodName) prog_1_method_34_code 4 (Option.some Jvm.ClassFile.FieldType.int)) ∈ TT := TT_of 315 rfl rfl
theorem w_318 : (Jvm.Cond.instanceMethod (⟨"DiagramBench$Diagram", "clear", "()V"⟩ : MethodName)) ∈ TT := TT_of 318 (by decide +kernel) rfl
theorem w_319 : (Jvm.Cond.code (⟨"DiagramBench$Diagram", "clear", "()V"⟩ : MethodName) prog_2_method_2_code 1 (Option.none : Option Jvm.ClassFile.FieldType)) ∈ TT := TT_of 319 rfl rfl
theorem w_320 : (Jvm.Cond.methodLink "DiagramBench$Diagram" 22 (⟨"java/util/Arrays", "fill", "([II)V"⟩ : MethodName)) ∈ TT := TT_of 320 (by decide +kernel) rfl
theorem w_321 : (Jvm.Cond.static (⟨"java/util/Arrays", "fill", "([II)V"⟩ : MethodName)) ∈ TT := TT_of 321 (by decide +kernel) rfl
theorem w_322 : (Jvm.Cond.code (⟨"java/util/Arrays", "fill", "([II)V"⟩ : MethodName) prog_13_method_103_code 4 (Option.none : Option Jvm.ClassFile.FieldType)) ∈ TT := TT_of 322 rfl rfl
theorem w_325 : (Jvm.Cond.instanceMethod (⟨"DiagramBench$Diagram", "take", "([J)V"⟩ : MethodName)) ∈ TT := TT_of 325 (by decide +kernel) rfl
theorem w_326 : (Jvm.Cond.code (⟨"DiagramBench$Diagram", "take", "([J)V"⟩ : MethodName) prog_2_method_3_code 5 (Option.none : Option Jvm.ClassFile.FieldType)) ∈ TT := TT_of 326 rfl rfl
theorem w_328 : (Jvm.Cond.methodLink "DiagramBench$Diagram" 32 (⟨"DiagramBench$Diagram", "nameOf", "(III)I"⟩ : MethodName)) ∈ TT := TT_of 328 (by decide +kernel) rfl
theorem w_330 : (Jvm.Cond.instanceMethod (⟨"DiagramBench$Diagram", "nameOf", "(III)I"⟩ : MethodName)) ∈ TT := TT_of 330 (by decide +kernel) rfl
theorem w_331 : (Jvm.Cond.code (⟨"DiagramBench$Diagram", "nameOf", "(III)I"⟩ : MethodName) prog_2_method_4_code 5 (Option.some Jvm.ClassFile.FieldType.int)) ∈ TT := TT_of 331 rfl rfl
theorem w_332 : (Jvm.Cond.methodLink "DiagramBench$Diagram" 36 (⟨"DiagramBench$Diagram", "slotOf", "(I)I"⟩ : MethodName)) ∈ TT := TT_of 332 (by decide +kernel) rfl
theorem w_334 : (Jvm.Cond.instanceMethod (⟨"DiagramBench$Diagram", "slotOf", "(I)I"⟩ : MethodName)) ∈ TT := TT_of 334 (by decide +kernel) rfl
theorem w_335 : (Jvm.Cond.code (⟨"DiagramBench$Diagram", "slotOf", "(I)I"⟩ : MethodName) prog_2_method_5_code 4 (Option.some Jvm.ClassFile.FieldType.int)) ∈ TT := TT_of 335 rfl rfl
theorem w_336 : (Jvm.Cond.constant "DiagramBench$Diagram" 40 (-1640531535 : Int32)) ∈ TT := TT_of 336 (by decide +kernel) rfl
theorem w_337 : (Jvm.Cond.methodLink "DiagramBenchLaw" 121 (⟨"DiagramBenchLaw", "together", "(LDiagramBench;II[J)I"⟩ : MethodName)) ∈ TT := TT_of 337 (by decide +kernel) rfl
theorem w_338 : (Jvm.Cond.static (⟨"DiagramBenchLaw", "together", "(LDiagramBench;II[J)I"⟩ : MethodName)) ∈ TT := TT_of 338 (by decide +kernel) rfl
theorem w_339 : (Jvm.Cond.codeWith (⟨"DiagramBenchLaw", "together", "(LDiagramBench;II[J)I"⟩ : MethodName) method_17_code 5 (Option.some Jvm.ClassFile.FieldType.int) [(0, 10, 13, 13)]) ∈ TT := TT_of 339 rfl rfl
theorem w_340 : (Jvm.Cond.methodLink "DiagramBenchLaw" 60 (⟨"DiagramBench", "together", "(II)I"⟩ : MethodName)) ∈ TT := TT_of 340 (by decide +kernel) rfl
theorem w_341 : (Jvm.Cond.instanceMethod (⟨"DiagramBench", "together", "(II)I"⟩ : MethodName)) ∈ TT := TT_of 341 (by decide +kernel) rfl
theorem w_342 : (Jvm.Cond.selects "DiagramBench" (⟨"DiagramBench", "together", "(II)I"⟩ : MethodName) (⟨"DiagramBench", "together", "(II)I"⟩ : MethodName)) ∈ TT := TT_of 342 (by decide +kernel) rfl
theorem w_343 : (Jvm.Cond.code (⟨"DiagramBench", "together", "(II)I"⟩ : MethodName) prog_1_method_16_code 3 (Option.some Jvm.ClassFile.FieldType.int)) ∈ TT := TT_of 343 rfl rfl
theorem w_345 : (Jvm.Cond.classLink "DiagramBenchLaw" 65 "DiagramBenchModel") ∈ TT := TT_of 345 (by decide +kernel) rfl
theorem w_346 : (Jvm.Cond.instantiable "DiagramBenchModel" 5) ∈ TT := TT_of 346 (by decide +kernel) rfl
theorem w_347 : (Jvm.Cond.methodLink "DiagramBenchLaw" 67 (⟨"DiagramBenchModel", "<init>", "()V"⟩ : MethodName)) ∈ TT := TT_of 347 (by decide +kernel) rfl
theorem w_348 : (Jvm.Cond.instanceMethod (⟨"DiagramBenchModel", "<init>", "()V"⟩ : MethodName)) ∈ TT := TT_of 348 (by decide +kernel) rfl
theorem w_349 : (Jvm.Cond.code (⟨"DiagramBenchModel", "<init>", "()V"⟩ : MethodName) prog_4_method_1_code 1 (Option.none : Option Jvm.ClassFile.FieldType)) ∈ TT := TT_of 349 rfl rfl
theorem w_350 : (Jvm.Cond.methodLink "DiagramBenchModel" 1 (⟨"java/lang/Object", "<init>", "()V"⟩ : MethodName)) ∈ TT := TT_of 350 (by decide +kernel) rfl
theorem w_351 : (Jvm.Cond.classLink "DiagramBenchModel" 13 "[[Z") ∈ TT := TT_of 351 (by decide +kernel) rfl
theorem w_353 : (Jvm.Cond.fieldLink "DiagramBenchModel" 7 "DiagramBenchModel" "thrown" "I") ∈ TT := TT_of 353 (by decide +kernel) rfl
theorem w_354 : (Jvm.Cond.fieldLink "DiagramBenchModel" 15 "DiagramBenchModel" "register" "[[Z") ∈ TT := TT_of 354 (by decide +kernel) rfl
theorem w_355 : (Jvm.Cond.fieldLink "DiagramBenchModel" 18 "DiagramBenchModel" "work" "[Z") ∈ TT := TT_of 355 (by decide +kernel) rfl
theorem w_356 : (Jvm.Cond.fieldLink "DiagramBenchModel" 22 "DiagramBenchModel" "foundIn" "[I") ∈ TT := TT_of 356 (by decide +kernel) rfl
theorem w_357 : (Jvm.Cond.fieldLink "DiagramBenchModel" 26 "DiagramBenchModel" "foundAt" "[I") ∈ TT := TT_of 357 (by decide +kernel) rfl
theorem w_358 : (Jvm.Cond.lays "DiagramBenchModel" "DiagramBenchModel" "thrown" "I") ∈ TT := TT_of 358 (by decide +kernel) rfl
theorem w_359 : (Jvm.Cond.soleField "DiagramBenchModel" "thrown") ∈ TT := TT_of 359 (by decide +kernel) rfl
theorem w_360 : (Jvm.Cond.laysFinal "DiagramBenchModel" "DiagramBenchModel" "register" "[[Z") ∈ TT := TT_of 360 (by decide +kernel) rfl
theorem w_361 : (Jvm.Cond.soleField "DiagramBenchModel" "register") ∈ TT := TT_of 361 (by decide +kernel) rfl
theorem w_362 : (Jvm.Cond.laysFinal "DiagramBenchModel" "DiagramBenchModel" "work" "[Z") ∈ TT := TT_of 362 (by decide +kernel) rfl
theorem w_363 : (Jvm.Cond.soleField "DiagramBenchModel" "work") ∈ TT := TT_of 363 (by decide +kernel) rfl
theorem w_364 : (Jvm.Cond.laysFinal "DiagramBenchModel" "DiagramBenchModel" "foundIn" "[I") ∈ TT := TT_of 364 (by decide +kernel) rfl
theorem w_365 : (Jvm.Cond.soleField "DiagramBenchModel" "foundIn") ∈ TT := TT_of 365 (by decide +kernel) rfl
theorem w_366 : (Jvm.Cond.laysFinal "DiagramBenchModel" "DiagramBenchModel" "foundAt" "[I") ∈ TT := TT_of 366 (by decide +kernel) rfl
theorem w_367 : (Jvm.Cond.soleField "DiagramBenchModel" "foundAt") ∈ TT := TT_of 367 (by decide +kernel) rfl
theorem w_368 : (Jvm.Cond.superclass "DiagramBenchModel" "java/lang/Object") ∈ TT := TT_of 368 (by decide +kernel) rfl
theorem w_369 : (Jvm.Cond.arrayClass Jvm.ClassFile.FieldType.boolean) ∈ TT := TT_of 369 (by decide +kernel) rfl
theorem w_370 : (Jvm.Cond.methodLink "DiagramBenchLaw" 74 (⟨"DiagramBenchModel", "thrown", "()I"⟩ : MethodName)) ∈ TT := TT_of 370 (by decide +kernel) rfl
theorem w_371 : (Jvm.Cond.instanceMethod (⟨"DiagramBenchModel", "thrown", "()I"⟩ : MethodName)) ∈ TT := TT_of 371 (by decide +kernel) rfl
theorem w_372 : (Jvm.Cond.selects "DiagramBenchModel" (⟨"DiagramBenchModel", "thrown", "()I"⟩ : MethodName) (⟨"DiagramBenchModel", "thrown", "()I"⟩ : MethodName)) ∈ TT := TT_of 372 (by decide +kernel) rfl
theorem w_373 : (Jvm.Cond.code (⟨"DiagramBenchModel", "thrown", "()I"⟩ : MethodName) prog_4_method_2_code 1 (Option.some Jvm.ClassFile.FieldType.int)) ∈ TT := TT_of 373 rfl rfl
theorem w_374 : (Jvm.Cond.methodLink "DiagramBenchLaw" 73 (⟨"DiagramBenchModel", "variable", "(II)V"⟩ : MethodName)) ∈ TT := TT_of 374 (by decide +kernel) rfl
theorem w_375 : (Jvm.Cond.instanceMethod (⟨"DiagramBenchModel", "variable", "(II)V"⟩ : MethodName)) ∈ TT := TT_of 375 (by decide +kernel) rfl
theorem w_376 : (Jvm.Cond.selects "DiagramBenchModel" (⟨"DiagramBenchModel", "variable", "(II)V"⟩ : MethodName) (⟨"DiagramBenchModel", "variable", "(II)V"⟩ : MethodName)) ∈ TT := TT_of 376 (by decide +kernel) rfl
theorem w_377 : (Jvm.Cond.code (⟨"DiagramBenchModel", "variable", "(II)V"⟩ : MethodName) prog_4_method_8_code 4 (Option.none : Option Jvm.ClassFile.FieldType)) ∈ TT := TT_of 377 rfl rfl
theorem w_378 : (Jvm.Cond.methodLink "DiagramBenchModel" 35 (⟨"DiagramBenchModel", "none", "(I)Z"⟩ : MethodName)) ∈ TT := TT_of 378 (by decide +kernel) rfl
theorem w_379 : (Jvm.Cond.static (⟨"DiagramBenchModel", "none", "(I)Z"⟩ : MethodName)) ∈ TT := TT_of 379 (by decide +kernel) rfl
theorem w_380 : (Jvm.Cond.code (⟨"DiagramBenchModel", "none", "(I)Z"⟩ : MethodName) prog_4_method_4_code 1 (Option.some Jvm.ClassFile.FieldType.boolean)) ∈ TT := TT_of 380 rfl rfl
theorem w_381 : (Jvm.Cond.methodLink "DiagramBenchModel" 39 (⟨"DiagramBenchModel", "outside", "(I)Z"⟩ : MethodName)) ∈ TT := TT_of 381 (by decide +kernel) rfl
theorem w_382 : (Jvm.Cond.static (⟨"DiagramBenchModel", "outside", "(I)Z"⟩ : MethodName)) ∈ TT := TT_of 382 (by decide +kernel) rfl
theorem w_383 : (Jvm.Cond.code (⟨"DiagramBenchModel", "outside", "(I)Z"⟩ : MethodName) prog_4_method_5_code 1 (Option.some Jvm.ClassFile.FieldType.boolean)) ∈ TT := TT_of 383 rfl rfl
theorem w_384 : (Jvm.Cond.methodLink "DiagramBenchModel" 42 (⟨"DiagramBenchModel", "bad", "(Z)Z"⟩ : MethodName)) ∈ TT := TT_of 384 (by decide +kernel) rfl
theorem w_386 : (Jvm.Cond.instanceMethod (⟨"DiagramBenchModel", "bad", "(Z)Z"⟩ : MethodName)) ∈ TT := TT_of 386 (by decide +kernel) rfl
theorem w_387 : (Jvm.Cond.code (⟨"DiagramBenchModel", "bad", "(Z)Z"⟩ : MethodName) prog_4_method_3_code 2 (Option.some Jvm.ClassFile.FieldType.boolean)) ∈ TT := TT_of 387 rfl rfl
theorem w_388 : (Jvm.Cond.methodLink "DiagramBenchLaw" 80 (⟨"DiagramBenchModel", "only", "(II)V"⟩ : MethodName)) ∈ TT := TT_of 388 (by decide +kernel) rfl
theorem w_389 : (Jvm.Cond.instanceMethod (⟨"DiagramBenchModel", "only", "(II)V"⟩ : MethodName)) ∈ TT := TT_of 389 (by decide +kernel) rfl
theorem w_390 : (Jvm.Cond.selects "DiagramBenchModel" (⟨"DiagramBenchModel", "only", "(II)V"⟩ : MethodName) (⟨"DiagramBenchModel", "only", "(II)V"⟩ : MethodName)) ∈ TT := TT_of 390 (by decide +kernel) rfl
theorem w_391 : (Jvm.Cond.code (⟨"DiagramBenchModel", "only", "(II)V"⟩ : MethodName) prog_4_method_9_code 4 (Option.none : Option Jvm.ClassFile.FieldType)) ∈ TT := TT_of 391 rfl rfl
theorem w_392 : (Jvm.Cond.methodLink "DiagramBenchModel" 46 (⟨"DiagramBenchModel", "beyond", "(I)Z"⟩ : MethodName)) ∈ TT := TT_of 392 (by decide +kernel) rfl
theorem w_393 : (Jvm.Cond.static (⟨"DiagramBenchModel", "beyond", "(I)Z"⟩ : MethodName)) ∈ TT := TT_of 393 (by decide +kernel) rfl
theorem w_394 : (Jvm.Cond.code (⟨"DiagramBenchModel", "beyond", "(I)Z"⟩ : MethodName) prog_4_method_6_code 1 (Option.some Jvm.ClassFile.FieldType.boolean)) ∈ TT := TT_of 394 rfl rfl
theorem w_395 : (Jvm.Cond.methodLink "DiagramBenchLaw" 84 (⟨"DiagramBenchModel", "join", "(IIII)V"⟩ : MethodName)) ∈ TT := TT_of 395 (by decide +kernel) rfl
theorem w_396 : (Jvm.Cond.instanceMethod (⟨"DiagramBenchModel", "join", "(IIII)V"⟩ : MethodName)) ∈ TT := TT_of 396 (by decide +kernel) rfl
theorem w_397 : (Jvm.Cond.selects "DiagramBenchModel" (⟨"DiagramBenchModel", "join", "(IIII)V"⟩ : MethodName) (⟨"DiagramBenchModel", "join", "(IIII)V"⟩ : MethodName)) ∈ TT := TT_of 397 (by decide +kernel) rfl
theorem w_398 : (Jvm.Cond.code (⟨"DiagramBenchModel", "join", "(IIII)V"⟩ : MethodName) prog_4_method_10_code 8 (Option.none : Option Jvm.ClassFile.FieldType)) ∈ TT := TT_of 398 rfl rfl
theorem w_399 : (Jvm.Cond.methodLink "DiagramBenchModel" 49 (⟨"DiagramBenchModel", "keep", "(I)V"⟩ : MethodName)) ∈ TT := TT_of 399 (by decide +kernel) rfl
theorem w_401 : (Jvm.Cond.instanceMethod (⟨"DiagramBenchModel", "keep", "(I)V"⟩ : MethodName)) ∈ TT := TT_of 401 (by decide +kernel) rfl
theorem w_402 : (Jvm.Cond.code (⟨"DiagramBenchModel", "keep", "(I)V"⟩ : MethodName) prog_4_method_7_code 2 (Option.none : Option Jvm.ClassFile.FieldType)) ∈ TT := TT_of 402 rfl rfl
theorem w_403 : (Jvm.Cond.methodLink "DiagramBenchModel" 29 (⟨"java/lang/System", "arraycopy", "(Ljava/lang/Object;ILjava/lang/Object;II)V"⟩ : MethodName)) ∈ TT := TT_of 403 (by decide +kernel) rfl
theorem w_404 : (Jvm.Cond.methodLink "DiagramBenchLaw" 87 (⟨"DiagramBenchModel", "choose", "(IIII)V"⟩ : MethodName)) ∈ TT := TT_of 404 (by decide +kernel) rfl
theorem w_405 : (Jvm.Cond.instanceMethod (⟨"DiagramBenchModel", "choose", "(IIII)V"⟩ : MethodName)) ∈ TT := TT_of 405 (by decide +kernel) rfl
theorem w_406 : (Jvm.Cond.selects "DiagramBenchModel" (⟨"DiagramBenchModel", "choose", "(IIII)V"⟩ : MethodName) (⟨"DiagramBenchModel", "choose", "(IIII)V"⟩ : MethodName)) ∈ TT := TT_of 406 (by decide +kernel) rfl
theorem w_407 : (Jvm.Cond.code (⟨"DiagramBenchModel", "choose", "(IIII)V"⟩ : MethodName) prog_4_method_11_code 6 (Option.none : Option Jvm.ClassFile.FieldType)) ∈ TT := TT_of 407 rfl rfl
theorem w_408 : (Jvm.Cond.methodLink "DiagramBenchLaw" 91 (⟨"DiagramBenchModel", "cut", "(IIIZ)V"⟩ : MethodName)) ∈ TT := TT_of 408 (by decide +kernel) rfl
theorem w_409 : (Jvm.Cond.instanceMethod (⟨"DiagramBenchModel", "cut", "(IIIZ)V"⟩ : MethodName)) ∈ TT := TT_of 409 (by decide +kernel) rfl
theorem w_410 : (Jvm.Cond.selects "DiagramBenchModel" (⟨"DiagramBenchModel", "cut", "(IIIZ)V"⟩ : MethodName) (⟨"DiagramBenchModel", "cut", "(IIIZ)V"⟩ : MethodName)) ∈ TT := TT_of 410 (by decide +kernel) rfl
theorem w_411 : (Jvm.Cond.code (⟨"DiagramBenchModel", "cut", "(IIIZ)V"⟩ : MethodName) prog_4_method_12_code 6 (Option.none : Option Jvm.ClassFile.FieldType)) ∈ TT := TT_of 411 rfl rfl
theorem w_412 : (Jvm.Cond.methodLink "DiagramBenchLaw" 94 (⟨"DiagramBenchModel", "put", "(IIII)V"⟩ : MethodName)) ∈ TT := TT_of 412 (by decide +kernel) rfl
theorem w_413 : (Jvm.Cond.instanceMethod (⟨"DiagramBenchModel", "put", "(IIII)V"⟩ : MethodName)) ∈ TT := TT_of 413 (by decide +kernel) rfl
theorem w_414 : (Jvm.Cond.selects "DiagramBenchModel" (⟨"DiagramBenchModel", "put", "(IIII)V"⟩ : MethodName) (⟨"DiagramBenchModel", "put", "(IIII)V"⟩ : MethodName)) ∈ TT := TT_of 414 (by decide +kernel) rfl
theorem w_415 : (Jvm.Cond.code (⟨"DiagramBenchModel", "put", "(IIII)V"⟩ : MethodName) prog_4_method_13_code 6 (Option.none : Option Jvm.ClassFile.FieldType)) ∈ TT := TT_of 415 rfl rfl
theorem w_416 : (Jvm.Cond.methodLink "DiagramBenchLaw" 97 (⟨"DiagramBenchModel", "bound", "(IIIZ)V"⟩ : MethodName)) ∈ TT := TT_of 416 (by decide +kernel) rfl
theorem w_417 : (Jvm.Cond.instanceMethod (⟨"DiagramBenchModel", "bound", "(IIIZ)V"⟩ : MethodName)) ∈ TT := TT_of 417 (by decide +kernel) rfl
theorem w_418 : (Jvm.Cond.selects "DiagramBenchModel" (⟨"DiagramBenchModel", "bound", "(IIIZ)V"⟩ : MethodName) (⟨"DiagramBenchModel", "bound", "(IIIZ)V"⟩ : MethodName)) ∈ TT := TT_of 418 (by decide +kernel) rfl
theorem w_419 : (Jvm.Cond.code (⟨"DiagramBenchModel", "bound", "(IIIZ)V"⟩ : MethodName) prog_4_method_14_code 8 (Option.none : Option Jvm.ClassFile.FieldType)) ∈ TT := TT_of 419 rfl rfl
theorem w_420 : (Jvm.Cond.methodLink "DiagramBenchLaw" 100 (⟨"DiagramBenchModel", "swap", "(IIII)V"⟩ : MethodName)) ∈ TT := TT_of 420 (by decide +kernel) rfl
theorem w_421 : (Jvm.Cond.instanceMethod (⟨"DiagramBenchModel", "swap", "(IIII)V"⟩ : MethodName)) ∈ TT := TT_of 421 (by decide +kernel) rfl
theorem w_422 : (Jvm.Cond.selects "DiagramBenchModel" (⟨"DiagramBenchModel", "swap", "(IIII)V"⟩ : MethodName) (⟨"DiagramBenchModel", "swap", "(IIII)V"⟩ : MethodName)) ∈ TT := TT_of 422 (by decide +kernel) rfl
theorem w_423 : (Jvm.Cond.code (⟨"DiagramBenchModel", "swap", "(IIII)V"⟩ : MethodName) prog_4_method_15_code 8 (Option.none : Option Jvm.ClassFile.FieldType)) ∈ TT := TT_of 423 rfl rfl
theorem w_424 : (Jvm.Cond.methodLink "DiagramBenchLaw" 104 (⟨"DiagramBenchModel", "is", "(II)Z"⟩ : MethodName)) ∈ TT := TT_of 424 (by decide +kernel) rfl
theorem w_425 : (Jvm.Cond.instanceMethod (⟨"DiagramBenchModel", "is", "(II)Z"⟩ : MethodName)) ∈ TT := TT_of 425 (by decide +kernel) rfl
theorem w_426 : (Jvm.Cond.selects "DiagramBenchModel" (⟨"DiagramBenchModel", "is", "(II)Z"⟩ : MethodName) (⟨"DiagramBenchModel", "is", "(II)Z"⟩ : MethodName)) ∈ TT := TT_of 426 (by decide +kernel) rfl
theorem w_427 : (Jvm.Cond.code (⟨"DiagramBenchModel", "is", "(II)Z"⟩ : MethodName) prog_4_method_16_code 3 (Option.some Jvm.ClassFile.FieldType.boolean)) ∈ TT := TT_of 427 rfl rfl
theorem w_428 : (Jvm.Cond.methodLink "DiagramBenchLaw" 108 (⟨"DiagramBenchModel", "ways", "(I)I"⟩ : MethodName)) ∈ TT := TT_of 428 (by decide +kernel) rfl
theorem w_429 : (Jvm.Cond.instanceMethod (⟨"DiagramBenchModel", "ways", "(I)I"⟩ : MethodName)) ∈ TT := TT_of 429 (by decide +kernel) rfl
theorem w_430 : (Jvm.Cond.selects "DiagramBenchModel" (⟨"DiagramBenchModel", "ways", "(I)I"⟩ : MethodName) (⟨"DiagramBenchModel", "ways", "(I)I"⟩ : MethodName)) ∈ TT := TT_of 430 (by decide +kernel) rfl
theorem w_431 : (Jvm.Cond.code (⟨"DiagramBenchModel", "ways", "(I)I"⟩ : MethodName) prog_4_method_17_code 4 (Option.some Jvm.ClassFile.FieldType.int)) ∈ TT := TT_of 431 rfl rfl
theorem w_432 : (Jvm.Cond.methodLink "DiagramBenchLaw" 111 (⟨"DiagramBenchModel", "first", "(I)I"⟩ : MethodName)) ∈ TT := TT_of 432 (by decide +kernel) rfl
theorem w_433 : (Jvm.Cond.instanceMethod (⟨"DiagramBenchModel", "first", "(I)I"⟩ : MethodName)) ∈ TT := TT_of 433 (by decide +kernel) rfl
theorem w_434 : (Jvm.Cond.selects "DiagramBenchModel" (⟨"DiagramBenchModel", "first", "(I)I"⟩ : MethodName) (⟨"DiagramBenchModel", "first", "(I)I"⟩ : MethodName)) ∈ TT := TT_of 434 (by decide +kernel) rfl
theorem w_435 : (Jvm.Cond.code (⟨"DiagramBenchModel", "first", "(I)I"⟩ : MethodName) prog_4_method_19_code 4 (Option.some Jvm.ClassFile.FieldType.int)) ∈ TT := TT_of 435 rfl rfl
theorem w_436 : (Jvm.Cond.methodLink "DiagramBenchModel" 53 (⟨"DiagramBenchModel", "turned", "(I)I"⟩ : MethodName)) ∈ TT := TT_of 436 (by decide +kernel) rfl
theorem w_437 : (Jvm.Cond.static (⟨"DiagramBenchModel", "turned", "(I)I"⟩ : MethodName)) ∈ TT := TT_of 437 (by decide +kernel) rfl
theorem w_438 : (Jvm.Cond.code (⟨"DiagramBenchModel", "turned", "(I)I"⟩ : MethodName) prog_4_method_18_code 3 (Option.some Jvm.ClassFile.FieldType.int)) ∈ TT := TT_of 438 rfl rfl
theorem w_439 : (Jvm.Cond.methodLink "DiagramBenchModel" 57 (⟨"java/lang/Math", "max", "(II)I"⟩ : MethodName)) ∈ TT := TT_of 439 (by decide +kernel) rfl
theorem w_440 : (Jvm.Cond.static (⟨"java/lang/Math", "max", "(II)I"⟩ : MethodName)) ∈ TT := TT_of 440 (by decide +kernel) rfl
theorem w_441 : (Jvm.Cond.code (⟨"java/lang/Math", "max", "(II)I"⟩ : MethodName) prog_8_method_65_code 2 (Option.some Jvm.ClassFile.FieldType.int)) ∈ TT := TT_of 441 rfl rfl
theorem w_442 : (Jvm.Cond.methodLink "DiagramBenchLaw" 114 (⟨"DiagramBenchModel", "hangs", "(I)I"⟩ : MethodName)) ∈ TT := TT_of 442 (by decide +kernel) rfl
theorem w_443 : (Jvm.Cond.instanceMethod (⟨"DiagramBenchModel", "hangs", "(I)I"⟩ : MethodName)) ∈ TT := TT_of 443 (by decide +kernel) rfl
theorem w_444 : (Jvm.Cond.selects "DiagramBenchModel" (⟨"DiagramBenchModel", "hangs", "(I)I"⟩ : MethodName) (⟨"DiagramBenchModel", "hangs", "(I)I"⟩ : MethodName)) ∈ TT := TT_of 444 (by decide +kernel) rfl
theorem w_445 : (Jvm.Cond.code (⟨"DiagramBenchModel", "hangs", "(I)I"⟩ : MethodName) prog_4_method_20_code 5 (Option.some Jvm.ClassFile.FieldType.int)) ∈ TT := TT_of 445 rfl rfl
theorem w_446 : (Jvm.Cond.methodLink "DiagramBenchLaw" 117 (⟨"DiagramBenchModel", "same", "(II)Z"⟩ : MethodName)) ∈ TT := TT_of 446 (by decide +kernel) rfl
theorem w_447 : (Jvm.Cond.instanceMethod (⟨"DiagramBenchModel", "same", "(II)Z"⟩ : MethodName)) ∈ TT := TT_of 447 (by decide +kernel) rfl
theorem w_448 : (Jvm.Cond.selects "DiagramBenchModel" (⟨"DiagramBenchModel", "same", "(II)Z"⟩ : MethodName) (⟨"DiagramBenchModel", "same", "(II)Z"⟩ : MethodName)) ∈ TT := TT_of 448 (by decide +kernel) rfl
theorem w_449 : (Jvm.Cond.code (⟨"DiagramBenchModel", "same", "(II)Z"⟩ : MethodName) prog_4_method_21_code 4 (Option.some Jvm.ClassFile.FieldType.boolean)) ∈ TT := TT_of 449 rfl rfl
theorem w_450 : (Jvm.Cond.methodLink "DiagramBenchLaw" 120 (⟨"DiagramBenchModel", "parts", "(I)I"⟩ : MethodName)) ∈ TT := TT_of 450 (by decide +kernel) rfl
theorem w_451 : (Jvm.Cond.instanceMethod (⟨"DiagramBenchModel", "parts", "(I)I"⟩ : MethodName)) ∈ TT := TT_of 451 (by decide +kernel) rfl
theorem w_452 : (Jvm.Cond.selects "DiagramBenchModel" (⟨"DiagramBenchModel", "parts", "(I)I"⟩ : MethodName) (⟨"DiagramBenchModel", "parts", "(I)I"⟩ : MethodName)) ∈ TT := TT_of 452 (by decide +kernel) rfl
theorem w_453 : (Jvm.Cond.code (⟨"DiagramBenchModel", "parts", "(I)I"⟩ : MethodName) prog_4_method_25_code 2 (Option.some Jvm.ClassFile.FieldType.int)) ∈ TT := TT_of 453 rfl rfl
theorem w_454 : (Jvm.Cond.methodLink "DiagramBenchModel" 71 (⟨"DiagramBenchModel", "count", "(II)I"⟩ : MethodName)) ∈ TT := TT_of 454 (by decide +kernel) rfl
theorem w_456 : (Jvm.Cond.instanceMethod (⟨"DiagramBenchModel", "count", "(II)I"⟩ : MethodName)) ∈ TT := TT_of 456 (by decide +kernel) rfl
theorem w_457 : (Jvm.Cond.code (⟨"DiagramBenchModel", "count", "(II)I"⟩ : MethodName) prog_4_method_24_code 9 (Option.some Jvm.ClassFile.FieldType.int)) ∈ TT := TT_of 457 rfl rfl
theorem w_458 : (Jvm.Cond.methodLink "DiagramBenchModel" 63 (⟨"DiagramBenchModel", "hangsOn", "(III)Z"⟩ : MethodName)) ∈ TT := TT_of 458 (by decide +kernel) rfl
theorem w_460 : (Jvm.Cond.instanceMethod (⟨"DiagramBenchModel", "hangsOn", "(III)Z"⟩ : MethodName)) ∈ TT := TT_of 460 (by decide +kernel) rfl
theorem w_461 : (Jvm.Cond.code (⟨"DiagramBenchModel", "hangsOn", "(III)Z"⟩ : MethodName) prog_4_method_22_code 5 (Option.some Jvm.ClassFile.FieldType.boolean)) ∈ TT := TT_of 461 rfl rfl
theorem w_462 : (Jvm.Cond.methodLink "DiagramBenchModel" 67 (⟨"DiagramBenchModel", "alike", "(IIIII)Z"⟩ : MethodName)) ∈ TT := TT_of 462 (by decide +kernel) rfl
theorem w_464 : (Jvm.Cond.instanceMethod (⟨"DiagramBenchModel", "alike", "(IIIII)Z"⟩ : MethodName)) ∈ TT := TT_of 464 (by decide +kernel) rfl
theorem w_465 : (Jvm.Cond.code (⟨"DiagramBenchModel", "alike", "(IIIII)Z"⟩ : MethodName) prog_4_method_23_code 7 (Option.some Jvm.ClassFile.FieldType.boolean)) ∈ TT := TT_of 465 rfl rfl
theorem w_466 : (Jvm.Cond.methodLink "DiagramBenchLaw" 123 (⟨"DiagramBenchModel", "together", "(II)I"⟩ : MethodName)) ∈ TT := TT_of 466 (by decide +kernel) rfl
theorem w_467 : (Jvm.Cond.instanceMethod (⟨"DiagramBenchModel", "together", "(II)I"⟩ : MethodName)) ∈ TT := TT_of 467 (by decide +kernel) rfl
theorem w_468 : (Jvm.Cond.selects "DiagramBenchModel" (⟨"DiagramBenchModel", "together", "(II)I"⟩ : MethodName) (⟨"DiagramBenchModel", "together", "(II)I"⟩ : MethodName)) ∈ TT := TT_of 468 (by decide +kernel) rfl
theorem w_469 : (Jvm.Cond.code (⟨"DiagramBenchModel", "together", "(II)I"⟩ : MethodName) prog_4_method_26_code 3 (Option.some Jvm.ClassFile.FieldType.int)) ∈ TT := TT_of 469 rfl rfl
theorem w_470 : (Jvm.Cond.sameMethod "java/lang/Throwable" "java/lang/Throwable" "fillInStackTrace" "(I)Ljava/lang/Throwable;") ∈ TT := TT_of 470 (by decide +kernel) rfl
theorem in_D {wd : Cond} : ∀ w ∈ u_ws R_D F_D 4, w ∈ wd :: TT := by
  intro w hw
  obtain ⟨k, hk, rfl⟩ := List.mem_map.mp hw
  have hk := List.mem_range.mp hk
  rcases (show k = 0 ∨ k = 1 ∨ k = 2 ∨ k = 3 by omega) with rfl | rfl | rfl | rfl
  · exact List.mem_cons_of_mem _ w_46
  · exact List.mem_cons_of_mem _ w_48
  · exact List.mem_cons_of_mem _ w_50
  · exact List.mem_cons_of_mem _ w_52
theorem in_G {wd : Cond} : ∀ w ∈ u_ws R_G F_G 3, w ∈ wd :: TT := by
  intro w hw
  obtain ⟨k, hk, rfl⟩ := List.mem_map.mp hw
  have hk := List.mem_range.mp hk
  rcases (show k = 0 ∨ k = 1 ∨ k = 2 by omega) with rfl | rfl | rfl
  · exact List.mem_cons_of_mem _ w_33
  · exact List.mem_cons_of_mem _ w_35
  · exact List.mem_cons_of_mem _ w_37
theorem in_M {wd : Cond} : ∀ w ∈ u_ws R_M F_M 5, w ∈ wd :: TT := by
  intro w hw
  obtain ⟨k, hk, rfl⟩ := List.mem_map.mp hw
  have hk := List.mem_range.mp hk
  rcases (show k = 0 ∨ k = 1 ∨ k = 2 ∨ k = 3 ∨ k = 4 by omega) with rfl | rfl | rfl | rfl | rfl
  · exact List.mem_cons_of_mem _ w_358
  · exact List.mem_cons_of_mem _ w_360
  · exact List.mem_cons_of_mem _ w_362
  · exact List.mem_cons_of_mem _ w_364
  · exact List.mem_cons_of_mem _ w_366
def tp (v : Nat) : Int64 := match v with
  | 0 => -6148914691236517206
  | 1 => -3689348814741910324
  | 2 => -1085102592571150096
  | 3 => -71777214294589696
  | 4 => -281470681808896
  | _ => -4294967296
def tpV (v : Nat) : Value := .long (tp v)
def strs : List (String × Nat × String) := [("DiagramBench", 126, "no such register"), ("DiagramBench", 128, "no such variable"), ("DiagramBench", 130, "no such assignment"), ("DiagramBench", 134, "no such kind"), ("DiagramBench", 132, "no such set"), ("DiagramBench", 104, "true for no assignment"), ("DiagramBench", 123, "no such range of registers")]
/-- words of the tables that a call doesn't hand on by itself -/
def nws : List Cond := [(Jvm.Cond.methodLinkNest "DiagramBench" 23 (⟨"DiagramBench$Diagram", "<init>", "()V"⟩ : MethodName) "DiagramBench"), (Jvm.Cond.fieldLinkNest "DiagramBench" 148 "DiagramBench$Diagram" "nodeCount" "I" "DiagramBench"), (Jvm.Cond.castable "java/lang/IllegalArgumentException" "java/lang/IllegalArgumentException"), (Jvm.Cond.declares (⟨"java/lang/RuntimeException", "<init>", "()V"⟩ : MethodName)), (Jvm.Cond.declares (⟨"java/lang/RuntimeException", "<init>", "(Ljava/lang/String;)V"⟩ : MethodName)), (Jvm.Cond.declares (⟨"java/lang/Exception", "<init>", "()V"⟩ : MethodName)), (Jvm.Cond.declares (⟨"java/lang/Exception", "<init>", "(Ljava/lang/String;)V"⟩ : MethodName)), (Jvm.Cond.declares (⟨"java/lang/Throwable", "<init>", "()V"⟩ : MethodName)), (Jvm.Cond.declares (⟨"java/lang/Throwable", "<init>", "(Ljava/lang/String;)V"⟩ : MethodName)), (Jvm.Cond.castable "java/util/NoSuchElementException" "java/util/NoSuchElementException"), (Jvm.Cond.methodLinkNest "DiagramBench" 141 (⟨"DiagramBench$Diagram", "clear", "()V"⟩ : MethodName) "DiagramBench"), (Jvm.Cond.methodLinkNest "DiagramBench" 144 (⟨"DiagramBench$Diagram", "take", "([J)V"⟩ : MethodName) "DiagramBench"), (Jvm.Cond.methodLinkNest "DiagramBench$Diagram" 28 (⟨"DiagramBench", "bitOf", "([JI)I"⟩ : MethodName) "DiagramBench")]
theorem nws_warm {s U : State} (hW : s.WarmedH U.vm) (h : ∀ w ∈ nws, va_Nw w s) : ∀ w ∈ nws, va_Nw w U := by
  intro w hw
  have h9 := h w hw
  simp only [nws, List.mem_cons, List.not_mem_nil, or_false] at hw
  rcases hw with rfl | rfl | rfl | rfl | rfl | rfl | rfl | rfl | rfl | rfl | rfl | rfl | rfl
  · exact va_Nw.warmM hW h9
  · exact va_Nw.warmF hW h9
  · exact va_Nw.warmC hW h9
  · exact va_Nw.warmD hW h9
  · exact va_Nw.warmD hW h9
  · exact va_Nw.warmD hW h9
  · exact va_Nw.warmD hW h9
  · exact va_Nw.warmD hW h9
  · exact va_Nw.warmD hW h9
  · exact va_Nw.warmC hW h9
  · exact va_Nw.warmM hW h9
  · exact va_Nw.warmM hW h9
  · exact va_Nw.warmM hW h9
theorem nws_same {u U : State} (hv : u.vm = U.vm) (h : ∀ w ∈ nws, va_Nw w u) : ∀ w ∈ nws, va_Nw w U := by
  intro w hw
  have h9 := h w hw
  have ht : w.onTables = true := by
    simp only [nws, List.mem_cons, List.not_mem_nil, or_false] at hw
    rcases hw with rfl | rfl | rfl | rfl | rfl | rfl | rfl | rfl | rfl | rfl | rfl | rfl | rfl <;> rfl
  exact va_Nw.same ht hv h9
abbrev b_D_init : ByteArray := prog_1_method_1_code
abbrev y_D_init : MethodName := ⟨"DiagramBench", "<init>", "()V"⟩
theorem wc_D_init : Cond.code y_D_init b_D_init 1 none ∈ TT := w_17
theorem hd_D_init : y_D_init.cls ≠ "java/lang/invoke/MethodHandle" ∧ y_D_init.cls ≠ "java/lang/invoke/VarHandle" ∧ (parseMethodDescriptor y_D_init.desc).map (fun d => d.parameters.length) = some 0 := by decide +kernel
abbrev b_D_variable : ByteArray := prog_1_method_2_code
abbrev y_D_variable : MethodName := ⟨"DiagramBench", "variable", "(II)V"⟩
theorem wc_D_variable : Cond.code y_D_variable b_D_variable 4 none ∈ TT := w_62
theorem hd_D_variable : y_D_variable.cls ≠ "java/lang/invoke/MethodHandle" ∧ y_D_variable.cls ≠ "java/lang/invoke/VarHandle" ∧ (parseMethodDescriptor y_D_variable.desc).map (fun d => d.parameters.length) = some 2 := by decide +kernel
abbrev b_D_only : ByteArray := prog_1_method_3_code
abbrev y_D_only : MethodName := ⟨"DiagramBench", "only", "(II)V"⟩
theorem wc_D_only : Cond.code y_D_only b_D_only 3 none ∈ TT := w_152
theorem hd_D_only : y_D_only.cls ≠ "java/lang/invoke/MethodHandle" ∧ y_D_only.cls ≠ "java/lang/invoke/VarHandle" ∧ (parseMethodDescriptor y_D_only.desc).map (fun d => d.parameters.length) = some 2 := by decide +kernel
abbrev b_D_join : ByteArray := prog_1_method_4_code
abbrev y_D_join : MethodName := ⟨"DiagramBench", "join", "(IIII)V"⟩
theorem wc_D_join : Cond.code y_D_join b_D_join 6 none ∈ TT := w_166
theorem hd_D_join : y_D_join.cls ≠ "java/lang/invoke/MethodHandle" ∧ y_D_join.cls ≠ "java/lang/invoke/VarHandle" ∧ (parseMethodDescriptor y_D_join.desc).map (fun d => d.parameters.length) = some 4 := by decide +kernel
abbrev b_D_choose : ByteArray := prog_1_method_5_code
abbrev y_D_choose : MethodName := ⟨"DiagramBench", "choose", "(IIII)V"⟩
theorem wc_D_choose : Cond.code y_D_choose b_D_choose 6 none ∈ TT := w_180
theorem hd_D_choose : y_D_choose.cls ≠ "java/lang/invoke/MethodHandle" ∧ y_D_choose.cls ≠ "java/lang/invoke/VarHandle" ∧ (parseMethodDescriptor y_D_choose.desc).map (fun d => d.parameters.length) = some 4 := by decide +kernel
abbrev b_D_cut : ByteArray := prog_1_method_6_code
abbrev y_D_cut : MethodName := ⟨"DiagramBench", "cut", "(IIIZ)V"⟩
theorem wc_D_cut : Cond.code y_D_cut b_D_cut 6 none ∈ TT := w_190
theorem hd_D_cut : y_D_cut.cls ≠ "java/lang/invoke/MethodHandle" ∧ y_D_cut.cls ≠ "java/lang/invoke/VarHandle" ∧ (parseMethodDescriptor y_D_cut.desc).map (fun d => d.parameters.length) = some 4 := by decide +kernel
abbrev b_D_put : ByteArray := prog_1_method_7_code
abbrev y_D_put : MethodName := ⟨"DiagramBench", "put", "(IIII)V"⟩
theorem wc_D_put : Cond.code y_D_put b_D_put 10 none ∈ TT := w_210
theorem hd_D_put : y_D_put.cls ≠ "java/lang/invoke/MethodHandle" ∧ y_D_put.cls ≠ "java/lang/invoke/VarHandle" ∧ (parseMethodDescriptor y_D_put.desc).map (fun d => d.parameters.length) = some 4 := by decide +kernel
abbrev b_D_bound : ByteArray := prog_1_method_8_code
abbrev y_D_bound : MethodName := ⟨"DiagramBench", "bound", "(IIIZ)V"⟩
theorem wc_D_bound : Cond.code y_D_bound b_D_bound 6 none ∈ TT := w_217
theorem hd_D_bound : y_D_bound.cls ≠ "java/lang/invoke/MethodHandle" ∧ y_D_bound.cls ≠ "java/lang/invoke/VarHandle" ∧ (parseMethodDescriptor y_D_bound.desc).map (fun d => d.parameters.length) = some 4 := by decide +kernel
abbrev b_D_swap : ByteArray := prog_1_method_9_code
abbrev y_D_swap : MethodName := ⟨"DiagramBench", "swap", "(IIII)V"⟩
theorem wc_D_swap : Cond.code y_D_swap b_D_swap 8 none ∈ TT := w_232
theorem hd_D_swap : y_D_swap.cls ≠ "java/lang/invoke/MethodHandle" ∧ y_D_swap.cls ≠ "java/lang/invoke/VarHandle" ∧ (parseMethodDescriptor y_D_swap.desc).map (fun d => d.parameters.length) = some 4 := by decide +kernel
abbrev b_D_is : ByteArray := prog_1_method_10_code
abbrev y_D_is : MethodName := ⟨"DiagramBench", "is", "(II)Z"⟩
theorem wc_D_is : Cond.code y_D_is b_D_is 3 (some .boolean) ∈ TT := w_239
theorem hd_D_is : y_D_is.cls ≠ "java/lang/invoke/MethodHandle" ∧ y_D_is.cls ≠ "java/lang/invoke/VarHandle" ∧ (parseMethodDescriptor y_D_is.desc).map (fun d => d.parameters.length) = some 2 := by decide +kernel
abbrev b_D_ways : ByteArray := prog_1_method_11_code
abbrev y_D_ways : MethodName := ⟨"DiagramBench", "ways", "(I)I"⟩
theorem wc_D_ways : Cond.code y_D_ways b_D_ways 4 (some .int) ∈ TT := w_249
theorem hd_D_ways : y_D_ways.cls ≠ "java/lang/invoke/MethodHandle" ∧ y_D_ways.cls ≠ "java/lang/invoke/VarHandle" ∧ (parseMethodDescriptor y_D_ways.desc).map (fun d => d.parameters.length) = some 1 := by decide +kernel
abbrev b_D_first : ByteArray := prog_1_method_12_code
abbrev y_D_first : MethodName := ⟨"DiagramBench", "first", "(I)I"⟩
theorem wc_D_first : Cond.code y_D_first b_D_first 4 (some .int) ∈ TT := w_263
theorem hd_D_first : y_D_first.cls ≠ "java/lang/invoke/MethodHandle" ∧ y_D_first.cls ≠ "java/lang/invoke/VarHandle" ∧ (parseMethodDescriptor y_D_first.desc).map (fun d => d.parameters.length) = some 1 := by decide +kernel
abbrev b_D_hangs : ByteArray := prog_1_method_13_code
abbrev y_D_hangs : MethodName := ⟨"DiagramBench", "hangs", "(I)I"⟩
theorem wc_D_hangs : Cond.code y_D_hangs b_D_hangs 4 (some .int) ∈ TT := w_294
theorem hd_D_hangs : y_D_hangs.cls ≠ "java/lang/invoke/MethodHandle" ∧ y_D_hangs.cls ≠ "java/lang/invoke/VarHandle" ∧ (parseMethodDescriptor y_D_hangs.desc).map (fun d => d.parameters.length) = some 1 := by decide +kernel
abbrev b_D_same : ByteArray := prog_1_method_14_code
abbrev y_D_same : MethodName := ⟨"DiagramBench", "same", "(II)Z"⟩
theorem wc_D_same : Cond.code y_D_same b_D_same 4 (some .boolean) ∈ TT := w_304
theorem hd_D_same : y_D_same.cls ≠ "java/lang/invoke/MethodHandle" ∧ y_D_same.cls ≠ "java/lang/invoke/VarHandle" ∧ (parseMethodDescriptor y_D_same.desc).map (fun d => d.parameters.length) = some 2 := by decide +kernel
abbrev b_D_parts : ByteArray := prog_1_method_15_code
abbrev y_D_parts : MethodName := ⟨"DiagramBench", "parts", "(I)I"⟩
theorem wc_D_parts : Cond.code y_D_parts b_D_parts 2 (some .int) ∈ TT := w_311
theorem hd_D_parts : y_D_parts.cls ≠ "java/lang/invoke/MethodHandle" ∧ y_D_parts.cls ≠ "java/lang/invoke/VarHandle" ∧ (parseMethodDescriptor y_D_parts.desc).map (fun d => d.parameters.length) = some 1 := by decide +kernel
abbrev b_D_together : ByteArray := prog_1_method_16_code
abbrev y_D_together : MethodName := ⟨"DiagramBench", "together", "(II)I"⟩
theorem wc_D_together : Cond.code y_D_together b_D_together 3 (some .int) ∈ TT := w_343
theorem hd_D_together : y_D_together.cls ≠ "java/lang/invoke/MethodHandle" ∧ y_D_together.cls ≠ "java/lang/invoke/VarHandle" ∧ (parseMethodDescriptor y_D_together.desc).map (fun d => d.parameters.length) = some 2 := by decide +kernel
abbrev b_D_checkRegister : ByteArray := prog_1_method_17_code
abbrev y_D_checkRegister : MethodName := ⟨"DiagramBench", "checkRegister", "(I)V"⟩
theorem wc_D_checkRegister : Cond.code y_D_checkRegister b_D_checkRegister 1 none ∈ TT := w_65
theorem hd_D_checkRegister : y_D_checkRegister.cls ≠ "java/lang/invoke/MethodHandle" ∧ y_D_checkRegister.cls ≠ "java/lang/invoke/VarHandle" ∧ (parseMethodDescriptor y_D_checkRegister.desc).map (fun d => d.parameters.length) = some 1 := by decide +kernel
abbrev b_D_checkVariable : ByteArray := prog_1_method_18_code
abbrev y_D_checkVariable : MethodName := ⟨"DiagramBench", "checkVariable", "(I)V"⟩
theorem wc_D_checkVariable : Cond.code y_D_checkVariable b_D_checkVariable 1 none ∈ TT := w_135
theorem hd_D_checkVariable : y_D_checkVariable.cls ≠ "java/lang/invoke/MethodHandle" ∧ y_D_checkVariable.cls ≠ "java/lang/invoke/VarHandle" ∧ (parseMethodDescriptor y_D_checkVariable.desc).map (fun d => d.parameters.length) = some 1 := by decide +kernel
abbrev b_D_checkAssignment : ByteArray := prog_1_method_19_code
abbrev y_D_checkAssignment : MethodName := ⟨"DiagramBench", "checkAssignment", "(I)V"⟩
theorem wc_D_checkAssignment : Cond.code y_D_checkAssignment b_D_checkAssignment 1 none ∈ TT := w_155
theorem hd_D_checkAssignment : y_D_checkAssignment.cls ≠ "java/lang/invoke/MethodHandle" ∧ y_D_checkAssignment.cls ≠ "java/lang/invoke/VarHandle" ∧ (parseMethodDescriptor y_D_checkAssignment.desc).map (fun d => d.parameters.length) = some 1 := by decide +kernel
abbrev b_D_checkSet : ByteArray := prog_1_method_20_code
abbrev y_D_checkSet : MethodName := ⟨"DiagramBench", "checkSet", "(I)V"⟩
theorem wc_D_checkSet : Cond.code y_D_checkSet b_D_checkSet 1 none ∈ TT := w_220
theorem hd_D_checkSet : y_D_checkSet.cls ≠ "java/lang/invoke/MethodHandle" ∧ y_D_checkSet.cls ≠ "java/lang/invoke/VarHandle" ∧ (parseMethodDescriptor y_D_checkSet.desc).map (fun d => d.parameters.length) = some 1 := by decide +kernel
abbrev b_D_checkKind : ByteArray := prog_1_method_21_code
abbrev y_D_checkKind : MethodName := ⟨"DiagramBench", "checkKind", "(I)V"⟩
theorem wc_D_checkKind : Cond.code y_D_checkKind b_D_checkKind 1 none ∈ TT := w_169
theorem hd_D_checkKind : y_D_checkKind.cls ≠ "java/lang/invoke/MethodHandle" ∧ y_D_checkKind.cls ≠ "java/lang/invoke/VarHandle" ∧ (parseMethodDescriptor y_D_checkKind.desc).map (fun d => d.parameters.length) = some 1 := by decide +kernel
abbrev b_D_isIn : ByteArray := prog_1_method_22_code
abbrev y_D_isIn : MethodName := ⟨"DiagramBench", "isIn", "(II)Z"⟩
theorem wc_D_isIn : Cond.code y_D_isIn b_D_isIn 2 (some .boolean) ∈ TT := w_144
theorem hd_D_isIn : y_D_isIn.cls ≠ "java/lang/invoke/MethodHandle" ∧ y_D_isIn.cls ≠ "java/lang/invoke/VarHandle" ∧ (parseMethodDescriptor y_D_isIn.desc).map (fun d => d.parameters.length) = some 2 := by decide +kernel
abbrev b_D_bitOf : ByteArray := prog_1_method_23_code
abbrev y_D_bitOf : MethodName := ⟨"DiagramBench", "bitOf", "([JI)I"⟩
theorem wc_D_bitOf : Cond.code y_D_bitOf b_D_bitOf 4 (some .int) ∈ TT := w_242
theorem hd_D_bitOf : y_D_bitOf.cls ≠ "java/lang/invoke/MethodHandle" ∧ y_D_bitOf.cls ≠ "java/lang/invoke/VarHandle" ∧ (parseMethodDescriptor y_D_bitOf.desc).map (fun d => d.parameters.length) = some 2 := by decide +kernel
abbrev b_D_joinedWord : ByteArray := prog_1_method_24_code
abbrev y_D_joinedWord : MethodName := ⟨"DiagramBench", "joinedWord", "(IJJ)J"⟩
theorem wc_D_joinedWord : Cond.code y_D_joinedWord b_D_joinedWord 5 (some .long) ∈ TT := w_173
theorem hd_D_joinedWord : y_D_joinedWord.cls ≠ "java/lang/invoke/MethodHandle" ∧ y_D_joinedWord.cls ≠ "java/lang/invoke/VarHandle" ∧ (parseMethodDescriptor y_D_joinedWord.desc).map (fun d => d.parameters.length) = some 3 := by decide +kernel
abbrev b_D_chosenWord : ByteArray := prog_1_method_25_code
abbrev y_D_chosenWord : MethodName := ⟨"DiagramBench", "chosenWord", "(JJJ)J"⟩
theorem wc_D_chosenWord : Cond.code y_D_chosenWord b_D_chosenWord 6 (some .long) ∈ TT := w_183
theorem hd_D_chosenWord : y_D_chosenWord.cls ≠ "java/lang/invoke/MethodHandle" ∧ y_D_chosenWord.cls ≠ "java/lang/invoke/VarHandle" ∧ (parseMethodDescriptor y_D_chosenWord.desc).map (fun d => d.parameters.length) = some 3 := by decide +kernel
abbrev b_D_variableWord : ByteArray := prog_1_method_26_code
abbrev y_D_variableWord : MethodName := ⟨"DiagramBench", "variableWord", "(II)J"⟩
theorem wc_D_variableWord : Cond.code y_D_variableWord b_D_variableWord 2 (some .long) ∈ TT := w_139
theorem hd_D_variableWord : y_D_variableWord.cls ≠ "java/lang/invoke/MethodHandle" ∧ y_D_variableWord.cls ≠ "java/lang/invoke/VarHandle" ∧ (parseMethodDescriptor y_D_variableWord.desc).map (fun d => d.parameters.length) = some 2 := by decide +kernel
abbrev b_D_turnedWord : ByteArray := prog_1_method_27_code
abbrev y_D_turnedWord : MethodName := ⟨"DiagramBench", "turnedWord", "([JII)J"⟩
theorem wc_D_turnedWord : Cond.code y_D_turnedWord b_D_turnedWord 6 (some .long) ∈ TT := w_196
theorem hd_D_turnedWord : y_D_turnedWord.cls ≠ "java/lang/invoke/MethodHandle" ∧ y_D_turnedWord.cls ≠ "java/lang/invoke/VarHandle" ∧ (parseMethodDescriptor y_D_turnedWord.desc).map (fun d => d.parameters.length) = some 3 := by decide +kernel
abbrev b_D_fixedWord : ByteArray := prog_1_method_28_code
abbrev y_D_fixedWord : MethodName := ⟨"DiagramBench", "fixedWord", "([JIZI)J"⟩
theorem wc_D_fixedWord : Cond.code y_D_fixedWord b_D_fixedWord 6 (some .long) ∈ TT := w_193
theorem hd_D_fixedWord : y_D_fixedWord.cls ≠ "java/lang/invoke/MethodHandle" ∧ y_D_fixedWord.cls ≠ "java/lang/invoke/VarHandle" ∧ (parseMethodDescriptor y_D_fixedWord.desc).map (fun d => d.parameters.length) = some 4 := by decide +kernel
abbrev b_D_hangsOn : ByteArray := prog_1_method_29_code
abbrev y_D_hangsOn : MethodName := ⟨"DiagramBench", "hangsOn", "([JI)Z"⟩
theorem wc_D_hangsOn : Cond.code y_D_hangsOn b_D_hangsOn 3 (some .boolean) ∈ TT := w_297
theorem hd_D_hangsOn : y_D_hangsOn.cls ≠ "java/lang/invoke/MethodHandle" ∧ y_D_hangsOn.cls ≠ "java/lang/invoke/VarHandle" ∧ (parseMethodDescriptor y_D_hangsOn.desc).map (fun d => d.parameters.length) = some 2 := by decide +kernel
abbrev b_D_store : ByteArray := prog_1_method_30_code
abbrev y_D_store : MethodName := ⟨"DiagramBench", "store", "([JI)V"⟩
theorem wc_D_store : Cond.code y_D_store b_D_store 3 none ∈ TT := w_200
theorem hd_D_store : y_D_store.cls ≠ "java/lang/invoke/MethodHandle" ∧ y_D_store.cls ≠ "java/lang/invoke/VarHandle" ∧ (parseMethodDescriptor y_D_store.desc).map (fun d => d.parameters.length) = some 2 := by decide +kernel
abbrev b_D_bindWork : ByteArray := prog_1_method_31_code
abbrev y_D_bindWork : MethodName := ⟨"DiagramBench", "bindWork", "(IZ)V"⟩
theorem wc_D_bindWork : Cond.code y_D_bindWork b_D_bindWork 6 none ∈ TT := w_225
theorem hd_D_bindWork : y_D_bindWork.cls ≠ "java/lang/invoke/MethodHandle" ∧ y_D_bindWork.cls ≠ "java/lang/invoke/VarHandle" ∧ (parseMethodDescriptor y_D_bindWork.desc).map (fun d => d.parameters.length) = some 2 := by decide +kernel
abbrev b_D_isEmptyWork : ByteArray := prog_1_method_32_code
abbrev y_D_isEmptyWork : MethodName := ⟨"DiagramBench", "isEmptyWork", "()Z"⟩
theorem wc_D_isEmptyWork : Cond.code y_D_isEmptyWork b_D_isEmptyWork 2 (some .boolean) ∈ TT := w_267
theorem hd_D_isEmptyWork : y_D_isEmptyWork.cls ≠ "java/lang/invoke/MethodHandle" ∧ y_D_isEmptyWork.cls ≠ "java/lang/invoke/VarHandle" ∧ (parseMethodDescriptor y_D_isEmptyWork.desc).map (fun d => d.parameters.length) = some 0 := by decide +kernel
abbrev b_D_narrowWorkToFalse : ByteArray := prog_1_method_33_code
abbrev y_D_narrowWorkToFalse : MethodName := ⟨"DiagramBench", "narrowWorkToFalse", "(I)Z"⟩
theorem wc_D_narrowWorkToFalse : Cond.code y_D_narrowWorkToFalse b_D_narrowWorkToFalse 5 (some .boolean) ∈ TT := w_287
theorem hd_D_narrowWorkToFalse : y_D_narrowWorkToFalse.cls ≠ "java/lang/invoke/MethodHandle" ∧ y_D_narrowWorkToFalse.cls ≠ "java/lang/invoke/VarHandle" ∧ (parseMethodDescriptor y_D_narrowWorkToFalse.desc).map (fun d => d.parameters.length) = some 1 := by decide +kernel
abbrev b_D_countNodes : ByteArray := prog_1_method_34_code
abbrev y_D_countNodes : MethodName := ⟨"DiagramBench", "countNodes", "(II)I"⟩
theorem wc_D_countNodes : Cond.code y_D_countNodes b_D_countNodes 4 (some .int) ∈ TT := w_315
theorem hd_D_countNodes : y_D_countNodes.cls ≠ "java/lang/invoke/MethodHandle" ∧ y_D_countNodes.cls ≠ "java/lang/invoke/VarHandle" ∧ (parseMethodDescriptor y_D_countNodes.desc).map (fun d => d.parameters.length) = some 2 := by decide +kernel
abbrev b_M_init : ByteArray := prog_4_method_1_code
abbrev y_M_init : MethodName := ⟨"DiagramBenchModel", "<init>", "()V"⟩
theorem wc_M_init : Cond.code y_M_init b_M_init 1 none ∈ TT := w_349
theorem hd_M_init : y_M_init.cls ≠ "java/lang/invoke/MethodHandle" ∧ y_M_init.cls ≠ "java/lang/invoke/VarHandle" ∧ (parseMethodDescriptor y_M_init.desc).map (fun d => d.parameters.length) = some 0 := by decide +kernel
abbrev b_M_thrown : ByteArray := prog_4_method_2_code
abbrev y_M_thrown : MethodName := ⟨"DiagramBenchModel", "thrown", "()I"⟩
theorem wc_M_thrown : Cond.code y_M_thrown b_M_thrown 1 (some .int) ∈ TT := w_373
theorem hd_M_thrown : y_M_thrown.cls ≠ "java/lang/invoke/MethodHandle" ∧ y_M_thrown.cls ≠ "java/lang/invoke/VarHandle" ∧ (parseMethodDescriptor y_M_thrown.desc).map (fun d => d.parameters.length) = some 0 := by decide +kernel
abbrev b_M_bad : ByteArray := prog_4_method_3_code
abbrev y_M_bad : MethodName := ⟨"DiagramBenchModel", "bad", "(Z)Z"⟩
theorem wc_M_bad : Cond.code y_M_bad b_M_bad 2 (some .boolean) ∈ TT := w_387
theorem hd_M_bad : y_M_bad.cls ≠ "java/lang/invoke/MethodHandle" ∧ y_M_bad.cls ≠ "java/lang/invoke/VarHandle" ∧ (parseMethodDescriptor y_M_bad.desc).map (fun d => d.parameters.length) = some 1 := by decide +kernel
abbrev b_M_none : ByteArray := prog_4_method_4_code
abbrev y_M_none : MethodName := ⟨"DiagramBenchModel", "none", "(I)Z"⟩
theorem wc_M_none : Cond.code y_M_none b_M_none 1 (some .boolean) ∈ TT := w_380
theorem hd_M_none : y_M_none.cls ≠ "java/lang/invoke/MethodHandle" ∧ y_M_none.cls ≠ "java/lang/invoke/VarHandle" ∧ (parseMethodDescriptor y_M_none.desc).map (fun d => d.parameters.length) = some 1 := by decide +kernel
abbrev b_M_outside : ByteArray := prog_4_method_5_code
abbrev y_M_outside : MethodName := ⟨"DiagramBenchModel", "outside", "(I)Z"⟩
theorem wc_M_outside : Cond.code y_M_outside b_M_outside 1 (some .boolean) ∈ TT := w_383
theorem hd_M_outside : y_M_outside.cls ≠ "java/lang/invoke/MethodHandle" ∧ y_M_outside.cls ≠ "java/lang/invoke/VarHandle" ∧ (parseMethodDescriptor y_M_outside.desc).map (fun d => d.parameters.length) = some 1 := by decide +kernel
abbrev b_M_beyond : ByteArray := prog_4_method_6_code
abbrev y_M_beyond : MethodName := ⟨"DiagramBenchModel", "beyond", "(I)Z"⟩
theorem wc_M_beyond : Cond.code y_M_beyond b_M_beyond 1 (some .boolean) ∈ TT := w_394
theorem hd_M_beyond : y_M_beyond.cls ≠ "java/lang/invoke/MethodHandle" ∧ y_M_beyond.cls ≠ "java/lang/invoke/VarHandle" ∧ (parseMethodDescriptor y_M_beyond.desc).map (fun d => d.parameters.length) = some 1 := by decide +kernel
abbrev b_M_keep : ByteArray := prog_4_method_7_code
abbrev y_M_keep : MethodName := ⟨"DiagramBenchModel", "keep", "(I)V"⟩
theorem wc_M_keep : Cond.code y_M_keep b_M_keep 2 none ∈ TT := w_402
theorem hd_M_keep : y_M_keep.cls ≠ "java/lang/invoke/MethodHandle" ∧ y_M_keep.cls ≠ "java/lang/invoke/VarHandle" ∧ (parseMethodDescriptor y_M_keep.desc).map (fun d => d.parameters.length) = some 1 := by decide +kernel
abbrev b_M_variable : ByteArray := prog_4_method_8_code
abbrev y_M_variable : MethodName := ⟨"DiagramBenchModel", "variable", "(II)V"⟩
theorem wc_M_variable : Cond.code y_M_variable b_M_variable 4 none ∈ TT := w_377
theorem hd_M_variable : y_M_variable.cls ≠ "java/lang/invoke/MethodHandle" ∧ y_M_variable.cls ≠ "java/lang/invoke/VarHandle" ∧ (parseMethodDescriptor y_M_variable.desc).map (fun d => d.parameters.length) = some 2 := by decide +kernel
abbrev b_M_only : ByteArray := prog_4_method_9_code
abbrev y_M_only : MethodName := ⟨"DiagramBenchModel", "only", "(II)V"⟩
theorem wc_M_only : Cond.code y_M_only b_M_only 4 none ∈ TT := w_391
theorem hd_M_only : y_M_only.cls ≠ "java/lang/invoke/MethodHandle" ∧ y_M_only.cls ≠ "java/lang/invoke/VarHandle" ∧ (parseMethodDescriptor y_M_only.desc).map (fun d => d.parameters.length) = some 2 := by decide +kernel
abbrev b_M_join : ByteArray := prog_4_method_10_code
abbrev y_M_join : MethodName := ⟨"DiagramBenchModel", "join", "(IIII)V"⟩
theorem wc_M_join : Cond.code y_M_join b_M_join 8 none ∈ TT := w_398
theorem hd_M_join : y_M_join.cls ≠ "java/lang/invoke/MethodHandle" ∧ y_M_join.cls ≠ "java/lang/invoke/VarHandle" ∧ (parseMethodDescriptor y_M_join.desc).map (fun d => d.parameters.length) = some 4 := by decide +kernel
abbrev b_M_choose : ByteArray := prog_4_method_11_code
abbrev y_M_choose : MethodName := ⟨"DiagramBenchModel", "choose", "(IIII)V"⟩
theorem wc_M_choose : Cond.code y_M_choose b_M_choose 6 none ∈ TT := w_407
theorem hd_M_choose : y_M_choose.cls ≠ "java/lang/invoke/MethodHandle" ∧ y_M_choose.cls ≠ "java/lang/invoke/VarHandle" ∧ (parseMethodDescriptor y_M_choose.desc).map (fun d => d.parameters.length) = some 4 := by decide +kernel
abbrev b_M_cut : ByteArray := prog_4_method_12_code
abbrev y_M_cut : MethodName := ⟨"DiagramBenchModel", "cut", "(IIIZ)V"⟩
theorem wc_M_cut : Cond.code y_M_cut b_M_cut 6 none ∈ TT := w_411
theorem hd_M_cut : y_M_cut.cls ≠ "java/lang/invoke/MethodHandle" ∧ y_M_cut.cls ≠ "java/lang/invoke/VarHandle" ∧ (parseMethodDescriptor y_M_cut.desc).map (fun d => d.parameters.length) = some 4 := by decide +kernel
abbrev b_M_put : ByteArray := prog_4_method_13_code
abbrev y_M_put : MethodName := ⟨"DiagramBenchModel", "put", "(IIII)V"⟩
theorem wc_M_put : Cond.code y_M_put b_M_put 6 none ∈ TT := w_415
theorem hd_M_put : y_M_put.cls ≠ "java/lang/invoke/MethodHandle" ∧ y_M_put.cls ≠ "java/lang/invoke/VarHandle" ∧ (parseMethodDescriptor y_M_put.desc).map (fun d => d.parameters.length) = some 4 := by decide +kernel
abbrev b_M_bound : ByteArray := prog_4_method_14_code
abbrev y_M_bound : MethodName := ⟨"DiagramBenchModel", "bound", "(IIIZ)V"⟩
theorem wc_M_bound : Cond.code y_M_bound b_M_bound 8 none ∈ TT := w_419
theorem hd_M_bound : y_M_bound.cls ≠ "java/lang/invoke/MethodHandle" ∧ y_M_bound.cls ≠ "java/lang/invoke/VarHandle" ∧ (parseMethodDescriptor y_M_bound.desc).map (fun d => d.parameters.length) = some 4 := by decide +kernel
abbrev b_M_swap : ByteArray := prog_4_method_15_code
abbrev y_M_swap : MethodName := ⟨"DiagramBenchModel", "swap", "(IIII)V"⟩
theorem wc_M_swap : Cond.code y_M_swap b_M_swap 8 none ∈ TT := w_423
theorem hd_M_swap : y_M_swap.cls ≠ "java/lang/invoke/MethodHandle" ∧ y_M_swap.cls ≠ "java/lang/invoke/VarHandle" ∧ (parseMethodDescriptor y_M_swap.desc).map (fun d => d.parameters.length) = some 4 := by decide +kernel
abbrev b_M_is : ByteArray := prog_4_method_16_code
abbrev y_M_is : MethodName := ⟨"DiagramBenchModel", "is", "(II)Z"⟩
theorem wc_M_is : Cond.code y_M_is b_M_is 3 (some .boolean) ∈ TT := w_427
theorem hd_M_is : y_M_is.cls ≠ "java/lang/invoke/MethodHandle" ∧ y_M_is.cls ≠ "java/lang/invoke/VarHandle" ∧ (parseMethodDescriptor y_M_is.desc).map (fun d => d.parameters.length) = some 2 := by decide +kernel
abbrev b_M_ways : ByteArray := prog_4_method_17_code
abbrev y_M_ways : MethodName := ⟨"DiagramBenchModel", "ways", "(I)I"⟩
theorem wc_M_ways : Cond.code y_M_ways b_M_ways 4 (some .int) ∈ TT := w_431
theorem hd_M_ways : y_M_ways.cls ≠ "java/lang/invoke/MethodHandle" ∧ y_M_ways.cls ≠ "java/lang/invoke/VarHandle" ∧ (parseMethodDescriptor y_M_ways.desc).map (fun d => d.parameters.length) = some 1 := by decide +kernel
abbrev b_M_turned : ByteArray := prog_4_method_18_code
abbrev y_M_turned : MethodName := ⟨"DiagramBenchModel", "turned", "(I)I"⟩
theorem wc_M_turned : Cond.code y_M_turned b_M_turned 3 (some .int) ∈ TT := w_438
theorem hd_M_turned : y_M_turned.cls ≠ "java/lang/invoke/MethodHandle" ∧ y_M_turned.cls ≠ "java/lang/invoke/VarHandle" ∧ (parseMethodDescriptor y_M_turned.desc).map (fun d => d.parameters.length) = some 1 := by decide +kernel
abbrev b_M_first : ByteArray := prog_4_method_19_code
abbrev y_M_first : MethodName := ⟨"DiagramBenchModel", "first", "(I)I"⟩
theorem wc_M_first : Cond.code y_M_first b_M_first 4 (some .int) ∈ TT := w_435
theorem hd_M_first : y_M_first.cls ≠ "java/lang/invoke/MethodHandle" ∧ y_M_first.cls ≠ "java/lang/invoke/VarHandle" ∧ (parseMethodDescriptor y_M_first.desc).map (fun d => d.parameters.length) = some 1 := by decide +kernel
abbrev b_M_hangs : ByteArray := prog_4_method_20_code
abbrev y_M_hangs : MethodName := ⟨"DiagramBenchModel", "hangs", "(I)I"⟩
theorem wc_M_hangs : Cond.code y_M_hangs b_M_hangs 5 (some .int) ∈ TT := w_445
theorem hd_M_hangs : y_M_hangs.cls ≠ "java/lang/invoke/MethodHandle" ∧ y_M_hangs.cls ≠ "java/lang/invoke/VarHandle" ∧ (parseMethodDescriptor y_M_hangs.desc).map (fun d => d.parameters.length) = some 1 := by decide +kernel
abbrev b_M_same : ByteArray := prog_4_method_21_code
abbrev y_M_same : MethodName := ⟨"DiagramBenchModel", "same", "(II)Z"⟩
theorem wc_M_same : Cond.code y_M_same b_M_same 4 (some .boolean) ∈ TT := w_449
theorem hd_M_same : y_M_same.cls ≠ "java/lang/invoke/MethodHandle" ∧ y_M_same.cls ≠ "java/lang/invoke/VarHandle" ∧ (parseMethodDescriptor y_M_same.desc).map (fun d => d.parameters.length) = some 2 := by decide +kernel
abbrev b_M_hangsOn : ByteArray := prog_4_method_22_code
abbrev y_M_hangsOn : MethodName := ⟨"DiagramBenchModel", "hangsOn", "(III)Z"⟩
theorem wc_M_hangsOn : Cond.code y_M_hangsOn b_M_hangsOn 5 (some .boolean) ∈ TT := w_461
theorem hd_M_hangsOn : y_M_hangsOn.cls ≠ "java/lang/invoke/MethodHandle" ∧ y_M_hangsOn.cls ≠ "java/lang/invoke/VarHandle" ∧ (parseMethodDescriptor y_M_hangsOn.desc).map (fun d => d.parameters.length) = some 3 := by decide +kernel
abbrev b_M_alike : ByteArray := prog_4_method_23_code
abbrev y_M_alike : MethodName := ⟨"DiagramBenchModel", "alike", "(IIIII)Z"⟩
theorem wc_M_alike : Cond.code y_M_alike b_M_alike 7 (some .boolean) ∈ TT := w_465
theorem hd_M_alike : y_M_alike.cls ≠ "java/lang/invoke/MethodHandle" ∧ y_M_alike.cls ≠ "java/lang/invoke/VarHandle" ∧ (parseMethodDescriptor y_M_alike.desc).map (fun d => d.parameters.length) = some 5 := by decide +kernel
abbrev b_M_count : ByteArray := prog_4_method_24_code
abbrev y_M_count : MethodName := ⟨"DiagramBenchModel", "count", "(II)I"⟩
theorem wc_M_count : Cond.code y_M_count b_M_count 9 (some .int) ∈ TT := w_457
theorem hd_M_count : y_M_count.cls ≠ "java/lang/invoke/MethodHandle" ∧ y_M_count.cls ≠ "java/lang/invoke/VarHandle" ∧ (parseMethodDescriptor y_M_count.desc).map (fun d => d.parameters.length) = some 2 := by decide +kernel
abbrev b_M_parts : ByteArray := prog_4_method_25_code
abbrev y_M_parts : MethodName := ⟨"DiagramBenchModel", "parts", "(I)I"⟩
theorem wc_M_parts : Cond.code y_M_parts b_M_parts 2 (some .int) ∈ TT := w_453
theorem hd_M_parts : y_M_parts.cls ≠ "java/lang/invoke/MethodHandle" ∧ y_M_parts.cls ≠ "java/lang/invoke/VarHandle" ∧ (parseMethodDescriptor y_M_parts.desc).map (fun d => d.parameters.length) = some 1 := by decide +kernel
abbrev b_M_together : ByteArray := prog_4_method_26_code
abbrev y_M_together : MethodName := ⟨"DiagramBenchModel", "together", "(II)I"⟩
theorem wc_M_together : Cond.code y_M_together b_M_together 3 (some .int) ∈ TT := w_469
theorem hd_M_together : y_M_together.cls ≠ "java/lang/invoke/MethodHandle" ∧ y_M_together.cls ≠ "java/lang/invoke/VarHandle" ∧ (parseMethodDescriptor y_M_together.desc).map (fun d => d.parameters.length) = some 2 := by decide +kernel
abbrev b_G_init : ByteArray := prog_2_method_1_code
abbrev y_G_init : MethodName := ⟨"DiagramBench$Diagram", "<init>", "()V"⟩
theorem wc_G_init : Cond.code y_G_init b_G_init 1 none ∈ TT := w_27
theorem hd_G_init : y_G_init.cls ≠ "java/lang/invoke/MethodHandle" ∧ y_G_init.cls ≠ "java/lang/invoke/VarHandle" ∧ (parseMethodDescriptor y_G_init.desc).map (fun d => d.parameters.length) = some 0 := by decide +kernel
abbrev b_G_clear : ByteArray := prog_2_method_2_code
abbrev y_G_clear : MethodName := ⟨"DiagramBench$Diagram", "clear", "()V"⟩
theorem wc_G_clear : Cond.code y_G_clear b_G_clear 1 none ∈ TT := w_319
theorem hd_G_clear : y_G_clear.cls ≠ "java/lang/invoke/MethodHandle" ∧ y_G_clear.cls ≠ "java/lang/invoke/VarHandle" ∧ (parseMethodDescriptor y_G_clear.desc).map (fun d => d.parameters.length) = some 0 := by decide +kernel
abbrev b_G_take : ByteArray := prog_2_method_3_code
abbrev y_G_take : MethodName := ⟨"DiagramBench$Diagram", "take", "([J)V"⟩
theorem wc_G_take : Cond.code y_G_take b_G_take 5 none ∈ TT := w_326
theorem hd_G_take : y_G_take.cls ≠ "java/lang/invoke/MethodHandle" ∧ y_G_take.cls ≠ "java/lang/invoke/VarHandle" ∧ (parseMethodDescriptor y_G_take.desc).map (fun d => d.parameters.length) = some 1 := by decide +kernel
abbrev b_G_nameOf : ByteArray := prog_2_method_4_code
abbrev y_G_nameOf : MethodName := ⟨"DiagramBench$Diagram", "nameOf", "(III)I"⟩
theorem wc_G_nameOf : Cond.code y_G_nameOf b_G_nameOf 5 (some .int) ∈ TT := w_331
theorem hd_G_nameOf : y_G_nameOf.cls ≠ "java/lang/invoke/MethodHandle" ∧ y_G_nameOf.cls ≠ "java/lang/invoke/VarHandle" ∧ (parseMethodDescriptor y_G_nameOf.desc).map (fun d => d.parameters.length) = some 3 := by decide +kernel
abbrev b_G_slotOf : ByteArray := prog_2_method_5_code
abbrev y_G_slotOf : MethodName := ⟨"DiagramBench$Diagram", "slotOf", "(I)I"⟩
theorem wc_G_slotOf : Cond.code y_G_slotOf b_G_slotOf 4 (some .int) ∈ TT := w_335
theorem hd_G_slotOf : y_G_slotOf.cls ≠ "java/lang/invoke/MethodHandle" ∧ y_G_slotOf.cls ≠ "java/lang/invoke/VarHandle" ∧ (parseMethodDescriptor y_G_slotOf.desc).map (fun d => d.parameters.length) = some 1 := by decide +kernel
abbrev b_L_variable : ByteArray := method_3_code
abbrev y_L_variable : MethodName := ⟨"DiagramBenchLaw", "variable", "(LDiagramBench;II)I"⟩
theorem hd_L_variable : y_L_variable.cls ≠ "java/lang/invoke/MethodHandle" ∧ y_L_variable.cls ≠ "java/lang/invoke/VarHandle" ∧ (parseMethodDescriptor y_L_variable.desc).map (fun d => d.parameters.length) = some 3 := by decide +kernel
abbrev b_L_only : ByteArray := method_4_code
abbrev y_L_only : MethodName := ⟨"DiagramBenchLaw", "only", "(LDiagramBench;II)I"⟩
theorem hd_L_only : y_L_only.cls ≠ "java/lang/invoke/MethodHandle" ∧ y_L_only.cls ≠ "java/lang/invoke/VarHandle" ∧ (parseMethodDescriptor y_L_only.desc).map (fun d => d.parameters.length) = some 3 := by decide +kernel
abbrev b_L_join : ByteArray := method_5_code
abbrev y_L_join : MethodName := ⟨"DiagramBenchLaw", "join", "(LDiagramBench;IIII)I"⟩
theorem hd_L_join : y_L_join.cls ≠ "java/lang/invoke/MethodHandle" ∧ y_L_join.cls ≠ "java/lang/invoke/VarHandle" ∧ (parseMethodDescriptor y_L_join.desc).map (fun d => d.parameters.length) = some 5 := by decide +kernel
abbrev b_L_choose : ByteArray := method_6_code
abbrev y_L_choose : MethodName := ⟨"DiagramBenchLaw", "choose", "(LDiagramBench;IIII)I"⟩
theorem hd_L_choose : y_L_choose.cls ≠ "java/lang/invoke/MethodHandle" ∧ y_L_choose.cls ≠ "java/lang/invoke/VarHandle" ∧ (parseMethodDescriptor y_L_choose.desc).map (fun d => d.parameters.length) = some 5 := by decide +kernel
abbrev b_L_cut : ByteArray := method_7_code
abbrev y_L_cut : MethodName := ⟨"DiagramBenchLaw", "cut", "(LDiagramBench;IIIZ)I"⟩
theorem hd_L_cut : y_L_cut.cls ≠ "java/lang/invoke/MethodHandle" ∧ y_L_cut.cls ≠ "java/lang/invoke/VarHandle" ∧ (parseMethodDescriptor y_L_cut.desc).map (fun d => d.parameters.length) = some 5 := by decide +kernel
abbrev b_L_put : ByteArray := method_8_code
abbrev y_L_put : MethodName := ⟨"DiagramBenchLaw", "put", "(LDiagramBench;IIII)I"⟩
theorem hd_L_put : y_L_put.cls ≠ "java/lang/invoke/MethodHandle" ∧ y_L_put.cls ≠ "java/lang/invoke/VarHandle" ∧ (parseMethodDescriptor y_L_put.desc).map (fun d => d.parameters.length) = some 5 := by decide +kernel
abbrev b_L_bound : ByteArray := method_9_code
abbrev y_L_bound : MethodName := ⟨"DiagramBenchLaw", "bound", "(LDiagramBench;IIIZ)I"⟩
theorem hd_L_bound : y_L_bound.cls ≠ "java/lang/invoke/MethodHandle" ∧ y_L_bound.cls ≠ "java/lang/invoke/VarHandle" ∧ (parseMethodDescriptor y_L_bound.desc).map (fun d => d.parameters.length) = some 5 := by decide +kernel
abbrev b_L_swap : ByteArray := method_10_code
abbrev y_L_swap : MethodName := ⟨"DiagramBenchLaw", "swap", "(LDiagramBench;IIII)I"⟩
theorem hd_L_swap : y_L_swap.cls ≠ "java/lang/invoke/MethodHandle" ∧ y_L_swap.cls ≠ "java/lang/invoke/VarHandle" ∧ (parseMethodDescriptor y_L_swap.desc).map (fun d => d.parameters.length) = some 5 := by decide +kernel
abbrev b_L_is : ByteArray := method_11_code
abbrev y_L_is : MethodName := ⟨"DiagramBenchLaw", "is", "(LDiagramBench;II[J)I"⟩
theorem hd_L_is : y_L_is.cls ≠ "java/lang/invoke/MethodHandle" ∧ y_L_is.cls ≠ "java/lang/invoke/VarHandle" ∧ (parseMethodDescriptor y_L_is.desc).map (fun d => d.parameters.length) = some 4 := by decide +kernel
abbrev b_L_ways : ByteArray := method_12_code
abbrev y_L_ways : MethodName := ⟨"DiagramBenchLaw", "ways", "(LDiagramBench;I[J)I"⟩
theorem hd_L_ways : y_L_ways.cls ≠ "java/lang/invoke/MethodHandle" ∧ y_L_ways.cls ≠ "java/lang/invoke/VarHandle" ∧ (parseMethodDescriptor y_L_ways.desc).map (fun d => d.parameters.length) = some 3 := by decide +kernel
abbrev b_L_first : ByteArray := method_13_code
abbrev y_L_first : MethodName := ⟨"DiagramBenchLaw", "first", "(LDiagramBench;I[J)I"⟩
theorem hd_L_first : y_L_first.cls ≠ "java/lang/invoke/MethodHandle" ∧ y_L_first.cls ≠ "java/lang/invoke/VarHandle" ∧ (parseMethodDescriptor y_L_first.desc).map (fun d => d.parameters.length) = some 3 := by decide +kernel
abbrev b_L_hangs : ByteArray := method_14_code
abbrev y_L_hangs : MethodName := ⟨"DiagramBenchLaw", "hangs", "(LDiagramBench;I[J)I"⟩
theorem hd_L_hangs : y_L_hangs.cls ≠ "java/lang/invoke/MethodHandle" ∧ y_L_hangs.cls ≠ "java/lang/invoke/VarHandle" ∧ (parseMethodDescriptor y_L_hangs.desc).map (fun d => d.parameters.length) = some 3 := by decide +kernel
abbrev b_L_same : ByteArray := method_15_code
abbrev y_L_same : MethodName := ⟨"DiagramBenchLaw", "same", "(LDiagramBench;II[J)I"⟩
theorem hd_L_same : y_L_same.cls ≠ "java/lang/invoke/MethodHandle" ∧ y_L_same.cls ≠ "java/lang/invoke/VarHandle" ∧ (parseMethodDescriptor y_L_same.desc).map (fun d => d.parameters.length) = some 4 := by decide +kernel
abbrev b_L_parts : ByteArray := method_16_code
abbrev y_L_parts : MethodName := ⟨"DiagramBenchLaw", "parts", "(LDiagramBench;I[J)I"⟩
theorem hd_L_parts : y_L_parts.cls ≠ "java/lang/invoke/MethodHandle" ∧ y_L_parts.cls ≠ "java/lang/invoke/VarHandle" ∧ (parseMethodDescriptor y_L_parts.desc).map (fun d => d.parameters.length) = some 3 := by decide +kernel
abbrev b_L_together : ByteArray := method_17_code
abbrev y_L_together : MethodName := ⟨"DiagramBenchLaw", "together", "(LDiagramBench;II[J)I"⟩
theorem hd_L_together : y_L_together.cls ≠ "java/lang/invoke/MethodHandle" ∧ y_L_together.cls ≠ "java/lang/invoke/VarHandle" ∧ (parseMethodDescriptor y_L_together.desc).map (fun d => d.parameters.length) = some 4 := by decide +kernel
abbrev b_J_bitCount : ByteArray := prog_7_method_50_code
abbrev y_J_bitCount : MethodName := ⟨"java/lang/Long", "bitCount", "(J)I"⟩
theorem wc_J_bitCount : Cond.code y_J_bitCount b_J_bitCount 2 (some .int) ∈ TT := w_252
theorem hd_J_bitCount : y_J_bitCount.cls ≠ "java/lang/invoke/MethodHandle" ∧ y_J_bitCount.cls ≠ "java/lang/invoke/VarHandle" ∧ (parseMethodDescriptor y_J_bitCount.desc).map (fun d => d.parameters.length) = some 1 := by decide +kernel
abbrev b_A_fillI : ByteArray := prog_13_method_103_code
abbrev y_A_fillI : MethodName := ⟨"java/util/Arrays", "fill", "([II)V"⟩
theorem wc_A_fillI : Cond.code y_A_fillI b_A_fillI 4 none ∈ TT := w_322
theorem hd_A_fillI : y_A_fillI.cls ≠ "java/lang/invoke/MethodHandle" ∧ y_A_fillI.cls ≠ "java/lang/invoke/VarHandle" ∧ (parseMethodDescriptor y_A_fillI.desc).map (fun d => d.parameters.length) = some 2 := by decide +kernel
abbrev b_A_fillJ : ByteArray := prog_13_method_101_code
abbrev y_A_fillJ : MethodName := ⟨"java/util/Arrays", "fill", "([JJ)V"⟩
theorem wc_A_fillJ : Cond.code y_A_fillJ b_A_fillJ 5 none ∈ TT := w_159
theorem hd_A_fillJ : y_A_fillJ.cls ≠ "java/lang/invoke/MethodHandle" ∧ y_A_fillJ.cls ≠ "java/lang/invoke/VarHandle" ∧ (parseMethodDescriptor y_A_fillJ.desc).map (fun d => d.parameters.length) = some 2 := by decide +kernel
