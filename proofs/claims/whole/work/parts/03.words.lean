def UW : List Cond := lw_tbl.filter goodWord
theorem uw_0 : (Jvm.Cond.selects "FlotationCircuit$Balance" ({ cls := "FlotationCircuit$Balance", name := "fillEquations", desc := "(LFlotationCircuit$State;I)V" } : Jvm.MethodName) ({ cls := "FlotationCircuit$Balance", name := "fillEquations", desc := "(LFlotationCircuit$State;I)V" } : Jvm.MethodName)) ∈ UW := List.mem_filter.mpr ⟨List.mem_of_getElem? (i := 0) rfl, rfl⟩
theorem uw_1 : (Jvm.Cond.selects "FlotationCircuit$State" ({ cls := "FlotationCircuit$State", name := "present", desc := "(I)I" } : Jvm.MethodName) ({ cls := "FlotationCircuit$State", name := "present", desc := "(I)I" } : Jvm.MethodName)) ∈ UW := List.mem_filter.mpr ⟨List.mem_of_getElem? (i := 1) rfl, rfl⟩
theorem uw_2 : (Jvm.Cond.selects "FlotationCircuit$Balance" ({ cls := "FlotationCircuit$Balance", name := "determinant", desc := "(I)J" } : Jvm.MethodName) ({ cls := "FlotationCircuit$Balance", name := "determinant", desc := "(I)J" } : Jvm.MethodName)) ∈ UW := List.mem_filter.mpr ⟨List.mem_of_getElem? (i := 2) rfl, rfl⟩
theorem uw_3 : (Jvm.Cond.selects "FlotationCircuit$Balance" ({ cls := "FlotationCircuit$Balance", name := "expand", desc := "(II)J" } : Jvm.MethodName) ({ cls := "FlotationCircuit$Balance", name := "expand", desc := "(II)J" } : Jvm.MethodName)) ∈ UW := List.mem_filter.mpr ⟨List.mem_of_getElem? (i := 3) rfl, rfl⟩
theorem uw_4 : (Jvm.Cond.selects "FlotationCircuit$Balance" ({ cls := "FlotationCircuit$Balance", name := "fillColumn", desc := "(LFlotationCircuit$State;III)V" } : Jvm.MethodName) ({ cls := "FlotationCircuit$Balance", name := "fillColumn", desc := "(LFlotationCircuit$State;III)V" } : Jvm.MethodName)) ∈ UW := List.mem_filter.mpr ⟨List.mem_of_getElem? (i := 4) rfl, rfl⟩
theorem uw_5 : (Jvm.Cond.selects "FlotationCircuit$Loops" ({ cls := "FlotationCircuit$Loops", name := "addLink", desc := "(LFlotationCircuit$State;II)V" } : Jvm.MethodName) ({ cls := "FlotationCircuit$Loops", name := "addLink", desc := "(LFlotationCircuit$State;II)V" } : Jvm.MethodName)) ∈ UW := List.mem_filter.mpr ⟨List.mem_of_getElem? (i := 5) rfl, rfl⟩
theorem uw_6 : (Jvm.Cond.selects "FlotationCircuit$Loops" ({ cls := "FlotationCircuit$Loops", name := "leads", desc := "(II)Z" } : Jvm.MethodName) ({ cls := "FlotationCircuit$Loops", name := "leads", desc := "(II)Z" } : Jvm.MethodName)) ∈ UW := List.mem_filter.mpr ⟨List.mem_of_getElem? (i := 6) rfl, rfl⟩
theorem uw_7 : (Jvm.Cond.selects "FlotationCircuit$Loops" ({ cls := "FlotationCircuit$Loops", name := "sharesLoopWithEarlier", desc := "(I)Z" } : Jvm.MethodName) ({ cls := "FlotationCircuit$Loops", name := "sharesLoopWithEarlier", desc := "(I)Z" } : Jvm.MethodName)) ∈ UW := List.mem_filter.mpr ⟨List.mem_of_getElem? (i := 7) rfl, rfl⟩
theorem uw_8 : (Jvm.Cond.selects "FlotationCircuit" ({ cls := "FlotationCircuit", name := "bestChange", desc := "(Z)I" } : Jvm.MethodName) ({ cls := "FlotationCircuit", name := "bestChange", desc := "(Z)I" } : Jvm.MethodName)) ∈ UW := List.mem_filter.mpr ⟨List.mem_of_getElem? (i := 8) rfl, rfl⟩
theorem uw_9 : (Jvm.Cond.selects "FlotationCircuit" ({ cls := "FlotationCircuit", name := "changeTrial", desc := "(IZ)V" } : Jvm.MethodName) ({ cls := "FlotationCircuit", name := "changeTrial", desc := "(IZ)V" } : Jvm.MethodName)) ∈ UW := List.mem_filter.mpr ⟨List.mem_of_getElem? (i := 9) rfl, rfl⟩
theorem uw_10 : (Jvm.Cond.selects "java/lang/Throwable" ({ cls := "java/lang/Throwable", name := "fillInStackTrace", desc := "(I)Ljava/lang/Throwable;" } : Jvm.MethodName) ({ cls := "java/lang/Throwable", name := "fillInStackTrace", desc := "(I)Ljava/lang/Throwable;" } : Jvm.MethodName)) ∈ UW := List.mem_filter.mpr ⟨List.mem_of_getElem? (i := 10) rfl, rfl⟩
theorem uw_11 : (Jvm.Cond.selects "FlotationCircuit$CircuitText" ({ cls := "FlotationCircuit$CircuitText", name := "number", desc := "(II)I" } : Jvm.MethodName) ({ cls := "FlotationCircuit$CircuitText", name := "number", desc := "(II)I" } : Jvm.MethodName)) ∈ UW := List.mem_filter.mpr ⟨List.mem_of_getElem? (i := 11) rfl, rfl⟩
theorem uw_12 : (Jvm.Cond.selects "FlotationCircuit" ({ cls := "FlotationCircuit", name := "requireCell", desc := "(I)V" } : Jvm.MethodName) ({ cls := "FlotationCircuit", name := "requireCell", desc := "(I)V" } : Jvm.MethodName)) ∈ UW := List.mem_filter.mpr ⟨List.mem_of_getElem? (i := 12) rfl, rfl⟩
theorem uw_13 : (Jvm.Cond.selects "FlotationCircuit$Simulation" ({ cls := "FlotationCircuit$Simulation", name := "moveComponent", desc := "(LFlotationCircuit$State;I)V" } : Jvm.MethodName) ({ cls := "FlotationCircuit$Simulation", name := "moveComponent", desc := "(LFlotationCircuit$State;I)V" } : Jvm.MethodName)) ∈ UW := List.mem_filter.mpr ⟨List.mem_of_getElem? (i := 13) rfl, rfl⟩
theorem uw_14 : (Jvm.Cond.selects "FlotationCircuit" ({ cls := "FlotationCircuit", name := "solveFlow", desc := "(II)V" } : Jvm.MethodName) ({ cls := "FlotationCircuit", name := "solveFlow", desc := "(II)V" } : Jvm.MethodName)) ∈ UW := List.mem_filter.mpr ⟨List.mem_of_getElem? (i := 14) rfl, rfl⟩
theorem uw_15 : (Jvm.Cond.selects "FlotationCircuit" ({ cls := "FlotationCircuit", name := "requireSteadyState", desc := "()V" } : Jvm.MethodName) ({ cls := "FlotationCircuit", name := "requireSteadyState", desc := "()V" } : Jvm.MethodName)) ∈ UW := List.mem_filter.mpr ⟨List.mem_of_getElem? (i := 15) rfl, rfl⟩
theorem uw_16 : (Jvm.Cond.selects "FlotationCircuit" ({ cls := "FlotationCircuit", name := "prepareUnknown", desc := "(II)V" } : Jvm.MethodName) ({ cls := "FlotationCircuit", name := "prepareUnknown", desc := "(II)V" } : Jvm.MethodName)) ∈ UW := List.mem_filter.mpr ⟨List.mem_of_getElem? (i := 16) rfl, rfl⟩
theorem uw_17 : (Jvm.Cond.selects "FlotationCircuit" ({ cls := "FlotationCircuit", name := "disturbTrial", desc := "(I)V" } : Jvm.MethodName) ({ cls := "FlotationCircuit", name := "disturbTrial", desc := "(I)V" } : Jvm.MethodName)) ∈ UW := List.mem_filter.mpr ⟨List.mem_of_getElem? (i := 17) rfl, rfl⟩
theorem uw_18 : (Jvm.Cond.selects "FlotationCircuitModel" ({ cls := "FlotationCircuitModel", name := "refused", desc := "(I)Z" } : Jvm.MethodName) ({ cls := "FlotationCircuitModel", name := "refused", desc := "(I)Z" } : Jvm.MethodName)) ∈ UW := List.mem_filter.mpr ⟨List.mem_of_getElem? (i := 18) rfl, rfl⟩
theorem uw_19 : (Jvm.Cond.selects "FlotationCircuitModel" ({ cls := "FlotationCircuitModel", name := "readText", desc := "()I" } : Jvm.MethodName) ({ cls := "FlotationCircuitModel", name := "readText", desc := "()I" } : Jvm.MethodName)) ∈ UW := List.mem_filter.mpr ⟨List.mem_of_getElem? (i := 19) rfl, rfl⟩
theorem uw_20 : (Jvm.Cond.selects "FlotationCircuitModel" ({ cls := "FlotationCircuitModel", name := "readLetter", desc := "(I)Z" } : Jvm.MethodName) ({ cls := "FlotationCircuitModel", name := "readLetter", desc := "(I)Z" } : Jvm.MethodName)) ∈ UW := List.mem_filter.mpr ⟨List.mem_of_getElem? (i := 20) rfl, rfl⟩
theorem uw_21 : (Jvm.Cond.selects "FlotationCircuitModel" ({ cls := "FlotationCircuitModel", name := "readGoal", desc := "(IZ)Z" } : Jvm.MethodName) ({ cls := "FlotationCircuitModel", name := "readGoal", desc := "(IZ)Z" } : Jvm.MethodName)) ∈ UW := List.mem_filter.mpr ⟨List.mem_of_getElem? (i := 21) rfl, rfl⟩
theorem uw_22 : (Jvm.Cond.selects "FlotationCircuitModel" ({ cls := "FlotationCircuitModel", name := "readNumber", desc := "(II)Z" } : Jvm.MethodName) ({ cls := "FlotationCircuitModel", name := "readNumber", desc := "(II)Z" } : Jvm.MethodName)) ∈ UW := List.mem_filter.mpr ⟨List.mem_of_getElem? (i := 22) rfl, rfl⟩
theorem uw_23 : (Jvm.Cond.selects "FlotationCircuitModel" ({ cls := "FlotationCircuitModel", name := "readCell", desc := "()Z" } : Jvm.MethodName) ({ cls := "FlotationCircuitModel", name := "readCell", desc := "()Z" } : Jvm.MethodName)) ∈ UW := List.mem_filter.mpr ⟨List.mem_of_getElem? (i := 23) rfl, rfl⟩
theorem uw_24 : (Jvm.Cond.selects "FlotationCircuitModel" ({ cls := "FlotationCircuitModel", name := "isCell", desc := "(I)Z" } : Jvm.MethodName) ({ cls := "FlotationCircuitModel", name := "isCell", desc := "(I)Z" } : Jvm.MethodName)) ∈ UW := List.mem_filter.mpr ⟨List.mem_of_getElem? (i := 24) rfl, rfl⟩
theorem uw_25 : (Jvm.Cond.selects "FlotationCircuitModel" ({ cls := "FlotationCircuitModel", name := "note", desc := "()V" } : Jvm.MethodName) ({ cls := "FlotationCircuitModel", name := "note", desc := "()V" } : Jvm.MethodName)) ∈ UW := List.mem_filter.mpr ⟨List.mem_of_getElem? (i := 25) rfl, rfl⟩
theorem uw_26 : (Jvm.Cond.selects "FlotationCircuitModel" ({ cls := "FlotationCircuitModel", name := "goStep", desc := "([I)V" } : Jvm.MethodName) ({ cls := "FlotationCircuitModel", name := "goStep", desc := "([I)V" } : Jvm.MethodName)) ∈ UW := List.mem_filter.mpr ⟨List.mem_of_getElem? (i := 26) rfl, rfl⟩
theorem uw_27 : (Jvm.Cond.selects "FlotationCircuitModel" ({ cls := "FlotationCircuitModel", name := "noFlow", desc := "(II)Z" } : Jvm.MethodName) ({ cls := "FlotationCircuitModel", name := "noFlow", desc := "(II)Z" } : Jvm.MethodName)) ∈ UW := List.mem_filter.mpr ⟨List.mem_of_getElem? (i := 27) rfl, rfl⟩
theorem uw_28 : (Jvm.Cond.selects "FlotationCircuitModel" ({ cls := "FlotationCircuitModel", name := "findFlow", desc := "([III)V" } : Jvm.MethodName) ({ cls := "FlotationCircuitModel", name := "findFlow", desc := "([III)V" } : Jvm.MethodName)) ∈ UW := List.mem_filter.mpr ⟨List.mem_of_getElem? (i := 28) rfl, rfl⟩
theorem uw_29 : (Jvm.Cond.selects "FlotationCircuitModel" ({ cls := "FlotationCircuitModel", name := "layMatrix", desc := "([II)V" } : Jvm.MethodName) ({ cls := "FlotationCircuitModel", name := "layMatrix", desc := "([II)V" } : Jvm.MethodName)) ∈ UW := List.mem_filter.mpr ⟨List.mem_of_getElem? (i := 29) rfl, rfl⟩
theorem uw_30 : (Jvm.Cond.selects "FlotationCircuitModel" ({ cls := "FlotationCircuitModel", name := "determinant", desc := "(II)J" } : Jvm.MethodName) ({ cls := "FlotationCircuitModel", name := "determinant", desc := "(II)J" } : Jvm.MethodName)) ∈ UW := List.mem_filter.mpr ⟨List.mem_of_getElem? (i := 30) rfl, rfl⟩
theorem uw_31 : (Jvm.Cond.selects "FlotationCircuitModel" ({ cls := "FlotationCircuitModel", name := "recoveryOf", desc := "([I)I" } : Jvm.MethodName) ({ cls := "FlotationCircuitModel", name := "recoveryOf", desc := "([I)I" } : Jvm.MethodName)) ∈ UW := List.mem_filter.mpr ⟨List.mem_of_getElem? (i := 31) rfl, rfl⟩
theorem uw_32 : (Jvm.Cond.selects "FlotationCircuitModel" ({ cls := "FlotationCircuitModel", name := "gradeOf", desc := "([I)I" } : Jvm.MethodName) ({ cls := "FlotationCircuitModel", name := "gradeOf", desc := "([I)I" } : Jvm.MethodName)) ∈ UW := List.mem_filter.mpr ⟨List.mem_of_getElem? (i := 32) rfl, rfl⟩
theorem uw_33 : (Jvm.Cond.selects "FlotationCircuitModel" ({ cls := "FlotationCircuitModel", name := "isLooped", desc := "(I)Z" } : Jvm.MethodName) ({ cls := "FlotationCircuitModel", name := "isLooped", desc := "(I)Z" } : Jvm.MethodName)) ∈ UW := List.mem_filter.mpr ⟨List.mem_of_getElem? (i := 33) rfl, rfl⟩
theorem uw_34 : (Jvm.Cond.selects "FlotationCircuitModel" ({ cls := "FlotationCircuitModel", name := "reached", desc := "(I)I" } : Jvm.MethodName) ({ cls := "FlotationCircuitModel", name := "reached", desc := "(I)I" } : Jvm.MethodName)) ∈ UW := List.mem_filter.mpr ⟨List.mem_of_getElem? (i := 34) rfl, rfl⟩
theorem uw_35 : (Jvm.Cond.selects "FlotationCircuitModel" ({ cls := "FlotationCircuitModel", name := "best", desc := "(Z)I" } : Jvm.MethodName) ({ cls := "FlotationCircuitModel", name := "best", desc := "(Z)I" } : Jvm.MethodName)) ∈ UW := List.mem_filter.mpr ⟨List.mem_of_getElem? (i := 35) rfl, rfl⟩
theorem uw_36 : (Jvm.Cond.selects "FlotationCircuitModel" ({ cls := "FlotationCircuitModel", name := "isMeasured", desc := "()Z" } : Jvm.MethodName) ({ cls := "FlotationCircuitModel", name := "isMeasured", desc := "()Z" } : Jvm.MethodName)) ∈ UW := List.mem_filter.mpr ⟨List.mem_of_getElem? (i := 36) rfl, rfl⟩
theorem uw_37 : (Jvm.Cond.initialized "FlotationCircuitLaw") ∈ UW := List.mem_filter.mpr ⟨List.mem_of_getElem? (i := 37) rfl, rfl⟩
theorem uw_38 : (Jvm.Cond.initialized "FlotationCircuit") ∈ UW := List.mem_filter.mpr ⟨List.mem_of_getElem? (i := 38) rfl, rfl⟩
theorem uw_39 : (Jvm.Cond.initialized "FlotationCircuit$CircuitText") ∈ UW := List.mem_filter.mpr ⟨List.mem_of_getElem? (i := 39) rfl, rfl⟩
theorem uw_40 : (Jvm.Cond.initialized "FlotationCircuit$State") ∈ UW := List.mem_filter.mpr ⟨List.mem_of_getElem? (i := 40) rfl, rfl⟩
theorem uw_41 : (Jvm.Cond.initialized "FlotationCircuit$History") ∈ UW := List.mem_filter.mpr ⟨List.mem_of_getElem? (i := 41) rfl, rfl⟩
theorem uw_42 : (Jvm.Cond.initialized "FlotationCircuit$StateRows") ∈ UW := List.mem_filter.mpr ⟨List.mem_of_getElem? (i := 42) rfl, rfl⟩
theorem uw_43 : (Jvm.Cond.initialized "java/lang/Math") ∈ UW := List.mem_filter.mpr ⟨List.mem_of_getElem? (i := 43) rfl, rfl⟩
theorem uw_44 : (Jvm.Cond.initialized "FlotationCircuit$Simulation") ∈ UW := List.mem_filter.mpr ⟨List.mem_of_getElem? (i := 44) rfl, rfl⟩
theorem uw_45 : (Jvm.Cond.initialized "FlotationCircuit$Balance") ∈ UW := List.mem_filter.mpr ⟨List.mem_of_getElem? (i := 45) rfl, rfl⟩
theorem uw_46 : (Jvm.Cond.initialized "FlotationCircuit$Loops") ∈ UW := List.mem_filter.mpr ⟨List.mem_of_getElem? (i := 46) rfl, rfl⟩
theorem uw_47 : (Jvm.Cond.initialized "FlotationCircuit$Measurements") ∈ UW := List.mem_filter.mpr ⟨List.mem_of_getElem? (i := 47) rfl, rfl⟩
theorem uw_48 : (Jvm.Cond.initialized "FlotationCircuit$Shares") ∈ UW := List.mem_filter.mpr ⟨List.mem_of_getElem? (i := 48) rfl, rfl⟩
theorem uw_49 : (Jvm.Cond.initialized "FlotationCircuitModel") ∈ UW := List.mem_filter.mpr ⟨List.mem_of_getElem? (i := 49) rfl, rfl⟩
theorem uw_50 : (Jvm.Cond.initialized "java/lang/Throwable") ∈ UW := List.mem_filter.mpr ⟨List.mem_of_getElem? (i := 50) rfl, rfl⟩
theorem uw_51 : (Jvm.Cond.initialized "java/lang/Exception") ∈ UW := List.mem_filter.mpr ⟨List.mem_of_getElem? (i := 51) rfl, rfl⟩
theorem uw_52 : (Jvm.Cond.initialized "java/lang/RuntimeException") ∈ UW := List.mem_filter.mpr ⟨List.mem_of_getElem? (i := 52) rfl, rfl⟩
theorem uw_53 : (Jvm.Cond.initialized "java/lang/IllegalArgumentException") ∈ UW := List.mem_filter.mpr ⟨List.mem_of_getElem? (i := 53) rfl, rfl⟩
theorem uw_54 : (Jvm.Cond.initialized "java/lang/IllegalStateException") ∈ UW := List.mem_filter.mpr ⟨List.mem_of_getElem? (i := 54) rfl, rfl⟩
theorem uw_55 : (Jvm.Cond.initialized "java/lang/IndexOutOfBoundsException") ∈ UW := List.mem_filter.mpr ⟨List.mem_of_getElem? (i := 55) rfl, rfl⟩
theorem uw_56 : (Jvm.Cond.initialized "java/lang/System") ∈ UW := List.mem_filter.mpr ⟨List.mem_of_getElem? (i := 56) rfl, rfl⟩
theorem uw_57 : (Jvm.Cond.initialized "java/util/Arrays") ∈ UW := List.mem_filter.mpr ⟨List.mem_of_getElem? (i := 57) rfl, rfl⟩
theorem uw_58 : (Jvm.Cond.initialized "java/lang/Integer") ∈ UW := List.mem_filter.mpr ⟨List.mem_of_getElem? (i := 58) rfl, rfl⟩
theorem uw_59 : (Jvm.Cond.classLink "FlotationCircuitLaw" (8 : Nat) "FlotationCircuit") ∈ UW := List.mem_filter.mpr ⟨List.mem_of_getElem? (i := 59) rfl, rfl⟩
theorem uw_60 : (Jvm.Cond.instantiable "FlotationCircuit" (13 : Nat)) ∈ UW := List.mem_filter.mpr ⟨List.mem_of_getElem? (i := 60) rfl, rfl⟩
theorem uw_61 : (Jvm.Cond.methodLink "FlotationCircuitLaw" (98 : Nat) ({ cls := "FlotationCircuit", name := "<init>", desc := "()V" } : Jvm.MethodName)) ∈ UW := List.mem_filter.mpr ⟨List.mem_of_getElem? (i := 61) rfl, rfl⟩
theorem uw_62 : (Jvm.Cond.instanceMethod ({ cls := "FlotationCircuit", name := "<init>", desc := "()V" } : Jvm.MethodName)) ∈ UW := List.mem_filter.mpr ⟨List.mem_of_getElem? (i := 62) rfl, rfl⟩
theorem uw_63 : (Jvm.Cond.code ({ cls := "FlotationCircuit", name := "<init>", desc := "()V" } : Jvm.MethodName) prog_1_method_1_code (1 : Nat) (Option.none : Option Jvm.ClassFile.FieldType)) ∈ UW := List.mem_filter.mpr ⟨List.mem_of_getElem? (i := 63) rfl, rfl⟩
theorem uw_64 : (Jvm.Cond.methodLink "FlotationCircuit" (1 : Nat) ({ cls := "java/lang/Object", name := "<init>", desc := "()V" } : Jvm.MethodName)) ∈ UW := List.mem_filter.mpr ⟨List.mem_of_getElem? (i := 64) rfl, rfl⟩
theorem uw_65 : (Jvm.Cond.instanceMethod ({ cls := "java/lang/Object", name := "<init>", desc := "()V" } : Jvm.MethodName)) ∈ UW := List.mem_filter.mpr ⟨List.mem_of_getElem? (i := 65) rfl, rfl⟩
theorem uw_66 : (Jvm.Cond.code ({ cls := "java/lang/Object", name := "<init>", desc := "()V" } : Jvm.MethodName) object_method_1_code (1 : Nat) (Option.none : Option Jvm.ClassFile.FieldType)) ∈ UW := List.mem_filter.mpr ⟨List.mem_of_getElem? (i := 66) rfl, rfl⟩
theorem uw_67 : (Jvm.Cond.classLink "FlotationCircuit" (7 : Nat) "FlotationCircuit$CircuitText") ∈ UW := List.mem_filter.mpr ⟨List.mem_of_getElem? (i := 67) rfl, rfl⟩
theorem uw_68 : (Jvm.Cond.instantiable "FlotationCircuit$CircuitText" (2 : Nat)) ∈ UW := List.mem_filter.mpr ⟨List.mem_of_getElem? (i := 68) rfl, rfl⟩
theorem tw_69 : (Jvm.Cond.methodLinkNest "FlotationCircuit" (9 : Nat) ({ cls := "FlotationCircuit$CircuitText", name := "<init>", desc := "()V" } : Jvm.MethodName) "FlotationCircuit") ∈ lw_tbl := List.mem_of_getElem? (i := 69) rfl
theorem uw_70 : (Jvm.Cond.instanceMethod ({ cls := "FlotationCircuit$CircuitText", name := "<init>", desc := "()V" } : Jvm.MethodName)) ∈ UW := List.mem_filter.mpr ⟨List.mem_of_getElem? (i := 70) rfl, rfl⟩
theorem uw_71 : (Jvm.Cond.code ({ cls := "FlotationCircuit$CircuitText", name := "<init>", desc := "()V" } : Jvm.MethodName) prog_3_method_1_code (1 : Nat) (Option.none : Option Jvm.ClassFile.FieldType)) ∈ UW := List.mem_filter.mpr ⟨List.mem_of_getElem? (i := 71) rfl, rfl⟩
theorem uw_72 : (Jvm.Cond.methodLink "FlotationCircuit$CircuitText" (3 : Nat) ({ cls := "java/lang/Object", name := "<init>", desc := "()V" } : Jvm.MethodName)) ∈ UW := List.mem_filter.mpr ⟨List.mem_of_getElem? (i := 72) rfl, rfl⟩
theorem uw_73 : (Jvm.Cond.fieldLink "FlotationCircuit$CircuitText" (11 : Nat) "FlotationCircuit$CircuitText" "signs" "[C") ∈ UW := List.mem_filter.mpr ⟨List.mem_of_getElem? (i := 73) rfl, rfl⟩
theorem uw_74 : (Jvm.Cond.fieldLink "FlotationCircuit$CircuitText" (15 : Nat) "FlotationCircuit$CircuitText" "length" "I") ∈ UW := List.mem_filter.mpr ⟨List.mem_of_getElem? (i := 74) rfl, rfl⟩
theorem uw_75 : (Jvm.Cond.laysFinal "FlotationCircuit$CircuitText" "FlotationCircuit$CircuitText" "signs" "[C") ∈ UW := List.mem_filter.mpr ⟨List.mem_of_getElem? (i := 75) rfl, rfl⟩
theorem uw_77 : (Jvm.Cond.lays "FlotationCircuit$CircuitText" "FlotationCircuit$CircuitText" "length" "I") ∈ UW := List.mem_filter.mpr ⟨List.mem_of_getElem? (i := 77) rfl, rfl⟩
theorem uw_79 : (Jvm.Cond.superclass "FlotationCircuit$CircuitText" "java/lang/Object") ∈ UW := List.mem_filter.mpr ⟨List.mem_of_getElem? (i := 79) rfl, rfl⟩
theorem uw_80 : (Jvm.Cond.arrayClass Jvm.ClassFile.FieldType.char) ∈ UW := List.mem_filter.mpr ⟨List.mem_of_getElem? (i := 80) rfl, rfl⟩
theorem uw_81 : (Jvm.Cond.classLink "FlotationCircuit" (16 : Nat) "FlotationCircuit$State") ∈ UW := List.mem_filter.mpr ⟨List.mem_of_getElem? (i := 81) rfl, rfl⟩
theorem uw_82 : (Jvm.Cond.instantiable "FlotationCircuit$State" (1 : Nat)) ∈ UW := List.mem_filter.mpr ⟨List.mem_of_getElem? (i := 82) rfl, rfl⟩
theorem uw_83 : (Jvm.Cond.methodLink "FlotationCircuit" (18 : Nat) ({ cls := "FlotationCircuit$State", name := "<init>", desc := "()V" } : Jvm.MethodName)) ∈ UW := List.mem_filter.mpr ⟨List.mem_of_getElem? (i := 83) rfl, rfl⟩
theorem uw_84 : (Jvm.Cond.instanceMethod ({ cls := "FlotationCircuit$State", name := "<init>", desc := "()V" } : Jvm.MethodName)) ∈ UW := List.mem_filter.mpr ⟨List.mem_of_getElem? (i := 84) rfl, rfl⟩
theorem uw_85 : (Jvm.Cond.code ({ cls := "FlotationCircuit$State", name := "<init>", desc := "()V" } : Jvm.MethodName) prog_9_method_1_code (1 : Nat) (Option.none : Option Jvm.ClassFile.FieldType)) ∈ UW := List.mem_filter.mpr ⟨List.mem_of_getElem? (i := 85) rfl, rfl⟩
theorem uw_86 : (Jvm.Cond.methodLink "FlotationCircuit$State" (3 : Nat) ({ cls := "java/lang/Object", name := "<init>", desc := "()V" } : Jvm.MethodName)) ∈ UW := List.mem_filter.mpr ⟨List.mem_of_getElem? (i := 86) rfl, rfl⟩
theorem uw_87 : (Jvm.Cond.fieldLink "FlotationCircuit$State" (11 : Nat) "FlotationCircuit$State" "values" "[I") ∈ UW := List.mem_filter.mpr ⟨List.mem_of_getElem? (i := 87) rfl, rfl⟩
theorem tw_88 : (Jvm.Cond.fieldLinkNest "FlotationCircuit$StateRows" (25 : Nat) "FlotationCircuit$State" "values" "[I" "FlotationCircuit") ∈ lw_tbl := List.mem_of_getElem? (i := 88) rfl
theorem uw_89 : (Jvm.Cond.laysFinal "FlotationCircuit$State" "FlotationCircuit$State" "values" "[I") ∈ UW := List.mem_filter.mpr ⟨List.mem_of_getElem? (i := 89) rfl, rfl⟩
theorem uw_91 : (Jvm.Cond.superclass "FlotationCircuit$State" "java/lang/Object") ∈ UW := List.mem_filter.mpr ⟨List.mem_of_getElem? (i := 91) rfl, rfl⟩
theorem uw_92 : (Jvm.Cond.arrayClass Jvm.ClassFile.FieldType.int) ∈ UW := List.mem_filter.mpr ⟨List.mem_of_getElem? (i := 92) rfl, rfl⟩
theorem uw_93 : (Jvm.Cond.classLink "FlotationCircuit" (26 : Nat) "FlotationCircuit$History") ∈ UW := List.mem_filter.mpr ⟨List.mem_of_getElem? (i := 93) rfl, rfl⟩
theorem uw_94 : (Jvm.Cond.instantiable "FlotationCircuit$History" (3 : Nat)) ∈ UW := List.mem_filter.mpr ⟨List.mem_of_getElem? (i := 94) rfl, rfl⟩
theorem tw_95 : (Jvm.Cond.methodLinkNest "FlotationCircuit" (28 : Nat) ({ cls := "FlotationCircuit$History", name := "<init>", desc := "()V" } : Jvm.MethodName) "FlotationCircuit") ∈ lw_tbl := List.mem_of_getElem? (i := 95) rfl
theorem uw_96 : (Jvm.Cond.instanceMethod ({ cls := "FlotationCircuit$History", name := "<init>", desc := "()V" } : Jvm.MethodName)) ∈ UW := List.mem_filter.mpr ⟨List.mem_of_getElem? (i := 96) rfl, rfl⟩
theorem uw_97 : (Jvm.Cond.code ({ cls := "FlotationCircuit$History", name := "<init>", desc := "()V" } : Jvm.MethodName) prog_4_method_1_code (1 : Nat) (Option.none : Option Jvm.ClassFile.FieldType)) ∈ UW := List.mem_filter.mpr ⟨List.mem_of_getElem? (i := 97) rfl, rfl⟩
theorem uw_98 : (Jvm.Cond.methodLink "FlotationCircuit$History" (3 : Nat) ({ cls := "java/lang/Object", name := "<init>", desc := "()V" } : Jvm.MethodName)) ∈ UW := List.mem_filter.mpr ⟨List.mem_of_getElem? (i := 98) rfl, rfl⟩
theorem uw_99 : (Jvm.Cond.classLink "FlotationCircuit$History" (9 : Nat) "FlotationCircuit$StateRows") ∈ UW := List.mem_filter.mpr ⟨List.mem_of_getElem? (i := 99) rfl, rfl⟩
theorem uw_100 : (Jvm.Cond.instantiable "FlotationCircuit$StateRows" (2 : Nat)) ∈ UW := List.mem_filter.mpr ⟨List.mem_of_getElem? (i := 100) rfl, rfl⟩
theorem uw_101 : (Jvm.Cond.methodLink "FlotationCircuit$History" (11 : Nat) ({ cls := "FlotationCircuit$StateRows", name := "<init>", desc := "(I)V" } : Jvm.MethodName)) ∈ UW := List.mem_filter.mpr ⟨List.mem_of_getElem? (i := 101) rfl, rfl⟩
theorem uw_102 : (Jvm.Cond.instanceMethod ({ cls := "FlotationCircuit$StateRows", name := "<init>", desc := "(I)V" } : Jvm.MethodName)) ∈ UW := List.mem_filter.mpr ⟨List.mem_of_getElem? (i := 102) rfl, rfl⟩
theorem uw_103 : (Jvm.Cond.code ({ cls := "FlotationCircuit$StateRows", name := "<init>", desc := "(I)V" } : Jvm.MethodName) prog_10_method_1_code (2 : Nat) (Option.none : Option Jvm.ClassFile.FieldType)) ∈ UW := List.mem_filter.mpr ⟨List.mem_of_getElem? (i := 103) rfl, rfl⟩
theorem uw_104 : (Jvm.Cond.methodLink "FlotationCircuit$StateRows" (1 : Nat) ({ cls := "java/lang/Object", name := "<init>", desc := "()V" } : Jvm.MethodName)) ∈ UW := List.mem_filter.mpr ⟨List.mem_of_getElem? (i := 104) rfl, rfl⟩
theorem uw_105 : (Jvm.Cond.methodLink "FlotationCircuit$StateRows" (7 : Nat) ({ cls := "java/lang/Math", name := "max", desc := "(II)I" } : Jvm.MethodName)) ∈ UW := List.mem_filter.mpr ⟨List.mem_of_getElem? (i := 105) rfl, rfl⟩
theorem uw_106 : (Jvm.Cond.static ({ cls := "java/lang/Math", name := "max", desc := "(II)I" } : Jvm.MethodName)) ∈ UW := List.mem_filter.mpr ⟨List.mem_of_getElem? (i := 106) rfl, rfl⟩
theorem uw_107 : (Jvm.Cond.code ({ cls := "java/lang/Math", name := "max", desc := "(II)I" } : Jvm.MethodName) prog_18_method_65_code (2 : Nat) (Option.some Jvm.ClassFile.FieldType.int)) ∈ UW := List.mem_filter.mpr ⟨List.mem_of_getElem? (i := 107) rfl, rfl⟩
theorem uw_108 : (Jvm.Cond.fieldLink "FlotationCircuit$StateRows" (13 : Nat) "FlotationCircuit$StateRows" "rows" "I") ∈ UW := List.mem_filter.mpr ⟨List.mem_of_getElem? (i := 108) rfl, rfl⟩
theorem uw_109 : (Jvm.Cond.fieldLink "FlotationCircuit$StateRows" (21 : Nat) "FlotationCircuit$StateRows" "values" "[I") ∈ UW := List.mem_filter.mpr ⟨List.mem_of_getElem? (i := 109) rfl, rfl⟩
theorem uw_110 : (Jvm.Cond.laysFinal "FlotationCircuit$StateRows" "FlotationCircuit$StateRows" "rows" "I") ∈ UW := List.mem_filter.mpr ⟨List.mem_of_getElem? (i := 110) rfl, rfl⟩
theorem uw_112 : (Jvm.Cond.laysFinal "FlotationCircuit$StateRows" "FlotationCircuit$StateRows" "values" "[I") ∈ UW := List.mem_filter.mpr ⟨List.mem_of_getElem? (i := 112) rfl, rfl⟩
theorem uw_114 : (Jvm.Cond.superclass "FlotationCircuit$StateRows" "java/lang/Object") ∈ UW := List.mem_filter.mpr ⟨List.mem_of_getElem? (i := 114) rfl, rfl⟩
theorem uw_115 : (Jvm.Cond.fieldLink "FlotationCircuit$History" (14 : Nat) "FlotationCircuit$History" "ring" "LFlotationCircuit$StateRows;") ∈ UW := List.mem_filter.mpr ⟨List.mem_of_getElem? (i := 115) rfl, rfl⟩
theorem uw_116 : (Jvm.Cond.fieldLink "FlotationCircuit$History" (20 : Nat) "FlotationCircuit$History" "next" "I") ∈ UW := List.mem_filter.mpr ⟨List.mem_of_getElem? (i := 116) rfl, rfl⟩
theorem uw_117 : (Jvm.Cond.fieldLink "FlotationCircuit$History" (24 : Nat) "FlotationCircuit$History" "kept" "I") ∈ UW := List.mem_filter.mpr ⟨List.mem_of_getElem? (i := 117) rfl, rfl⟩
theorem uw_118 : (Jvm.Cond.laysFinal "FlotationCircuit$History" "FlotationCircuit$History" "ring" "LFlotationCircuit$StateRows;") ∈ UW := List.mem_filter.mpr ⟨List.mem_of_getElem? (i := 118) rfl, rfl⟩
theorem uw_120 : (Jvm.Cond.lays "FlotationCircuit$History" "FlotationCircuit$History" "next" "I") ∈ UW := List.mem_filter.mpr ⟨List.mem_of_getElem? (i := 120) rfl, rfl⟩
theorem uw_122 : (Jvm.Cond.lays "FlotationCircuit$History" "FlotationCircuit$History" "kept" "I") ∈ UW := List.mem_filter.mpr ⟨List.mem_of_getElem? (i := 122) rfl, rfl⟩
theorem uw_124 : (Jvm.Cond.superclass "FlotationCircuit$History" "java/lang/Object") ∈ UW := List.mem_filter.mpr ⟨List.mem_of_getElem? (i := 124) rfl, rfl⟩
theorem uw_125 : (Jvm.Cond.classLink "FlotationCircuit" (33 : Nat) "FlotationCircuit$StateRows") ∈ UW := List.mem_filter.mpr ⟨List.mem_of_getElem? (i := 125) rfl, rfl⟩
theorem uw_126 : (Jvm.Cond.methodLink "FlotationCircuit" (35 : Nat) ({ cls := "FlotationCircuit$StateRows", name := "<init>", desc := "(I)V" } : Jvm.MethodName)) ∈ UW := List.mem_filter.mpr ⟨List.mem_of_getElem? (i := 126) rfl, rfl⟩
theorem uw_127 : (Jvm.Cond.classLink "FlotationCircuit" (46 : Nat) "FlotationCircuit$Simulation") ∈ UW := List.mem_filter.mpr ⟨List.mem_of_getElem? (i := 127) rfl, rfl⟩
theorem uw_128 : (Jvm.Cond.instantiable "FlotationCircuit$Simulation" (1 : Nat)) ∈ UW := List.mem_filter.mpr ⟨List.mem_of_getElem? (i := 128) rfl, rfl⟩
theorem tw_129 : (Jvm.Cond.methodLinkNest "FlotationCircuit" (48 : Nat) ({ cls := "FlotationCircuit$Simulation", name := "<init>", desc := "()V" } : Jvm.MethodName) "FlotationCircuit") ∈ lw_tbl := List.mem_of_getElem? (i := 129) rfl
theorem uw_130 : (Jvm.Cond.instanceMethod ({ cls := "FlotationCircuit$Simulation", name := "<init>", desc := "()V" } : Jvm.MethodName)) ∈ UW := List.mem_filter.mpr ⟨List.mem_of_getElem? (i := 130) rfl, rfl⟩
theorem uw_131 : (Jvm.Cond.code ({ cls := "FlotationCircuit$Simulation", name := "<init>", desc := "()V" } : Jvm.MethodName) prog_8_method_1_code (1 : Nat) (Option.none : Option Jvm.ClassFile.FieldType)) ∈ UW := List.mem_filter.mpr ⟨List.mem_of_getElem? (i := 131) rfl, rfl⟩
theorem uw_132 : (Jvm.Cond.methodLink "FlotationCircuit$Simulation" (3 : Nat) ({ cls := "java/lang/Object", name := "<init>", desc := "()V" } : Jvm.MethodName)) ∈ UW := List.mem_filter.mpr ⟨List.mem_of_getElem? (i := 132) rfl, rfl⟩
theorem uw_133 : (Jvm.Cond.fieldLink "FlotationCircuit$Simulation" (9 : Nat) "FlotationCircuit$Simulation" "arriving" "[I") ∈ UW := List.mem_filter.mpr ⟨List.mem_of_getElem? (i := 133) rfl, rfl⟩
theorem uw_134 : (Jvm.Cond.laysFinal "FlotationCircuit$Simulation" "FlotationCircuit$Simulation" "arriving" "[I") ∈ UW := List.mem_filter.mpr ⟨List.mem_of_getElem? (i := 134) rfl, rfl⟩
theorem uw_136 : (Jvm.Cond.superclass "FlotationCircuit$Simulation" "java/lang/Object") ∈ UW := List.mem_filter.mpr ⟨List.mem_of_getElem? (i := 136) rfl, rfl⟩
theorem uw_137 : (Jvm.Cond.arrayClass Jvm.ClassFile.FieldType.boolean) ∈ UW := List.mem_filter.mpr ⟨List.mem_of_getElem? (i := 137) rfl, rfl⟩
theorem uw_138 : (Jvm.Cond.classLink "FlotationCircuit" (53 : Nat) "FlotationCircuit$Balance") ∈ UW := List.mem_filter.mpr ⟨List.mem_of_getElem? (i := 138) rfl, rfl⟩
theorem uw_139 : (Jvm.Cond.instantiable "FlotationCircuit$Balance" (4 : Nat)) ∈ UW := List.mem_filter.mpr ⟨List.mem_of_getElem? (i := 139) rfl, rfl⟩
theorem tw_140 : (Jvm.Cond.methodLinkNest "FlotationCircuit" (55 : Nat) ({ cls := "FlotationCircuit$Balance", name := "<init>", desc := "()V" } : Jvm.MethodName) "FlotationCircuit") ∈ lw_tbl := List.mem_of_getElem? (i := 140) rfl
theorem uw_141 : (Jvm.Cond.instanceMethod ({ cls := "FlotationCircuit$Balance", name := "<init>", desc := "()V" } : Jvm.MethodName)) ∈ UW := List.mem_filter.mpr ⟨List.mem_of_getElem? (i := 141) rfl, rfl⟩
theorem uw_142 : (Jvm.Cond.code ({ cls := "FlotationCircuit$Balance", name := "<init>", desc := "()V" } : Jvm.MethodName) prog_2_method_1_code (1 : Nat) (Option.none : Option Jvm.ClassFile.FieldType)) ∈ UW := List.mem_filter.mpr ⟨List.mem_of_getElem? (i := 142) rfl, rfl⟩
theorem uw_143 : (Jvm.Cond.methodLink "FlotationCircuit$Balance" (3 : Nat) ({ cls := "java/lang/Object", name := "<init>", desc := "()V" } : Jvm.MethodName)) ∈ UW := List.mem_filter.mpr ⟨List.mem_of_getElem? (i := 143) rfl, rfl⟩
theorem uw_144 : (Jvm.Cond.fieldLink "FlotationCircuit$Balance" (9 : Nat) "FlotationCircuit$Balance" "equations" "[J") ∈ UW := List.mem_filter.mpr ⟨List.mem_of_getElem? (i := 144) rfl, rfl⟩
theorem uw_145 : (Jvm.Cond.fieldLink "FlotationCircuit$Balance" (15 : Nat) "FlotationCircuit$Balance" "minors" "[J") ∈ UW := List.mem_filter.mpr ⟨List.mem_of_getElem? (i := 145) rfl, rfl⟩
theorem uw_146 : (Jvm.Cond.fieldLink "FlotationCircuit$Balance" (18 : Nat) "FlotationCircuit$Balance" "numerator" "J") ∈ UW := List.mem_filter.mpr ⟨List.mem_of_getElem? (i := 146) rfl, rfl⟩
theorem tw_147 : (Jvm.Cond.fieldLinkNest "FlotationCircuit$Shares" (30 : Nat) "FlotationCircuit$Balance" "numerator" "J" "FlotationCircuit") ∈ lw_tbl := List.mem_of_getElem? (i := 147) rfl
theorem uw_148 : (Jvm.Cond.fieldLink "FlotationCircuit$Balance" (22 : Nat) "FlotationCircuit$Balance" "denominator" "J") ∈ UW := List.mem_filter.mpr ⟨List.mem_of_getElem? (i := 148) rfl, rfl⟩
theorem tw_149 : (Jvm.Cond.fieldLinkNest "FlotationCircuit$Shares" (33 : Nat) "FlotationCircuit$Balance" "denominator" "J" "FlotationCircuit") ∈ lw_tbl := List.mem_of_getElem? (i := 149) rfl
theorem uw_150 : (Jvm.Cond.laysFinal "FlotationCircuit$Balance" "FlotationCircuit$Balance" "equations" "[J") ∈ UW := List.mem_filter.mpr ⟨List.mem_of_getElem? (i := 150) rfl, rfl⟩
theorem uw_152 : (Jvm.Cond.laysFinal "FlotationCircuit$Balance" "FlotationCircuit$Balance" "minors" "[J") ∈ UW := List.mem_filter.mpr ⟨List.mem_of_getElem? (i := 152) rfl, rfl⟩
theorem uw_154 : (Jvm.Cond.lays "FlotationCircuit$Balance" "FlotationCircuit$Balance" "numerator" "J") ∈ UW := List.mem_filter.mpr ⟨List.mem_of_getElem? (i := 154) rfl, rfl⟩
theorem uw_156 : (Jvm.Cond.lays "FlotationCircuit$Balance" "FlotationCircuit$Balance" "denominator" "J") ∈ UW := List.mem_filter.mpr ⟨List.mem_of_getElem? (i := 156) rfl, rfl⟩
theorem uw_158 : (Jvm.Cond.superclass "FlotationCircuit$Balance" "java/lang/Object") ∈ UW := List.mem_filter.mpr ⟨List.mem_of_getElem? (i := 158) rfl, rfl⟩
theorem uw_159 : (Jvm.Cond.arrayClass Jvm.ClassFile.FieldType.long) ∈ UW := List.mem_filter.mpr ⟨List.mem_of_getElem? (i := 159) rfl, rfl⟩
theorem uw_160 : (Jvm.Cond.classLink "FlotationCircuit" (60 : Nat) "FlotationCircuit$Loops") ∈ UW := List.mem_filter.mpr ⟨List.mem_of_getElem? (i := 160) rfl, rfl⟩
theorem uw_161 : (Jvm.Cond.instantiable "FlotationCircuit$Loops" (1 : Nat)) ∈ UW := List.mem_filter.mpr ⟨List.mem_of_getElem? (i := 161) rfl, rfl⟩
theorem tw_162 : (Jvm.Cond.methodLinkNest "FlotationCircuit" (62 : Nat) ({ cls := "FlotationCircuit$Loops", name := "<init>", desc := "()V" } : Jvm.MethodName) "FlotationCircuit") ∈ lw_tbl := List.mem_of_getElem? (i := 162) rfl
theorem uw_163 : (Jvm.Cond.instanceMethod ({ cls := "FlotationCircuit$Loops", name := "<init>", desc := "()V" } : Jvm.MethodName)) ∈ UW := List.mem_filter.mpr ⟨List.mem_of_getElem? (i := 163) rfl, rfl⟩
theorem uw_164 : (Jvm.Cond.code ({ cls := "FlotationCircuit$Loops", name := "<init>", desc := "()V" } : Jvm.MethodName) prog_5_method_1_code (1 : Nat) (Option.none : Option Jvm.ClassFile.FieldType)) ∈ UW := List.mem_filter.mpr ⟨List.mem_of_getElem? (i := 164) rfl, rfl⟩
theorem uw_165 : (Jvm.Cond.methodLink "FlotationCircuit$Loops" (3 : Nat) ({ cls := "java/lang/Object", name := "<init>", desc := "()V" } : Jvm.MethodName)) ∈ UW := List.mem_filter.mpr ⟨List.mem_of_getElem? (i := 165) rfl, rfl⟩
theorem uw_166 : (Jvm.Cond.fieldLink "FlotationCircuit$Loops" (9 : Nat) "FlotationCircuit$Loops" "reached" "[I") ∈ UW := List.mem_filter.mpr ⟨List.mem_of_getElem? (i := 166) rfl, rfl⟩
theorem uw_167 : (Jvm.Cond.laysFinal "FlotationCircuit$Loops" "FlotationCircuit$Loops" "reached" "[I") ∈ UW := List.mem_filter.mpr ⟨List.mem_of_getElem? (i := 167) rfl, rfl⟩
theorem uw_169 : (Jvm.Cond.superclass "FlotationCircuit$Loops" "java/lang/Object") ∈ UW := List.mem_filter.mpr ⟨List.mem_of_getElem? (i := 169) rfl, rfl⟩
theorem uw_170 : (Jvm.Cond.classLink "FlotationCircuit" (67 : Nat) "FlotationCircuit$Measurements") ∈ UW := List.mem_filter.mpr ⟨List.mem_of_getElem? (i := 170) rfl, rfl⟩
theorem uw_171 : (Jvm.Cond.instantiable "FlotationCircuit$Measurements" (4 : Nat)) ∈ UW := List.mem_filter.mpr ⟨List.mem_of_getElem? (i := 171) rfl, rfl⟩
theorem tw_172 : (Jvm.Cond.methodLinkNest "FlotationCircuit" (69 : Nat) ({ cls := "FlotationCircuit$Measurements", name := "<init>", desc := "()V" } : Jvm.MethodName) "FlotationCircuit") ∈ lw_tbl := List.mem_of_getElem? (i := 172) rfl
theorem uw_173 : (Jvm.Cond.instanceMethod ({ cls := "FlotationCircuit$Measurements", name := "<init>", desc := "()V" } : Jvm.MethodName)) ∈ UW := List.mem_filter.mpr ⟨List.mem_of_getElem? (i := 173) rfl, rfl⟩
theorem uw_174 : (Jvm.Cond.code ({ cls := "FlotationCircuit$Measurements", name := "<init>", desc := "()V" } : Jvm.MethodName) prog_6_method_1_code (1 : Nat) (Option.none : Option Jvm.ClassFile.FieldType)) ∈ UW := List.mem_filter.mpr ⟨List.mem_of_getElem? (i := 174) rfl, rfl⟩
theorem uw_175 : (Jvm.Cond.methodLink "FlotationCircuit$Measurements" (1 : Nat) ({ cls := "java/lang/Object", name := "<init>", desc := "()V" } : Jvm.MethodName)) ∈ UW := List.mem_filter.mpr ⟨List.mem_of_getElem? (i := 175) rfl, rfl⟩
theorem uw_176 : (Jvm.Cond.fieldLink "FlotationCircuit$Measurements" (9 : Nat) "FlotationCircuit$Measurements" "kinds" "[I") ∈ UW := List.mem_filter.mpr ⟨List.mem_of_getElem? (i := 176) rfl, rfl⟩
theorem uw_177 : (Jvm.Cond.fieldLink "FlotationCircuit$Measurements" (13 : Nat) "FlotationCircuit$Measurements" "values" "[I") ∈ UW := List.mem_filter.mpr ⟨List.mem_of_getElem? (i := 177) rfl, rfl⟩
theorem uw_178 : (Jvm.Cond.fieldLink "FlotationCircuit$Measurements" (16 : Nat) "FlotationCircuit$Measurements" "next" "I") ∈ UW := List.mem_filter.mpr ⟨List.mem_of_getElem? (i := 178) rfl, rfl⟩
theorem uw_179 : (Jvm.Cond.fieldLink "FlotationCircuit$Measurements" (20 : Nat) "FlotationCircuit$Measurements" "stored" "I") ∈ UW := List.mem_filter.mpr ⟨List.mem_of_getElem? (i := 179) rfl, rfl⟩
theorem uw_180 : (Jvm.Cond.laysFinal "FlotationCircuit$Measurements" "FlotationCircuit$Measurements" "kinds" "[I") ∈ UW := List.mem_filter.mpr ⟨List.mem_of_getElem? (i := 180) rfl, rfl⟩
theorem uw_182 : (Jvm.Cond.laysFinal "FlotationCircuit$Measurements" "FlotationCircuit$Measurements" "values" "[I") ∈ UW := List.mem_filter.mpr ⟨List.mem_of_getElem? (i := 182) rfl, rfl⟩
theorem uw_184 : (Jvm.Cond.lays "FlotationCircuit$Measurements" "FlotationCircuit$Measurements" "next" "I") ∈ UW := List.mem_filter.mpr ⟨List.mem_of_getElem? (i := 184) rfl, rfl⟩
theorem uw_186 : (Jvm.Cond.lays "FlotationCircuit$Measurements" "FlotationCircuit$Measurements" "stored" "I") ∈ UW := List.mem_filter.mpr ⟨List.mem_of_getElem? (i := 186) rfl, rfl⟩
theorem uw_188 : (Jvm.Cond.superclass "FlotationCircuit$Measurements" "java/lang/Object") ∈ UW := List.mem_filter.mpr ⟨List.mem_of_getElem? (i := 188) rfl, rfl⟩
theorem uw_189 : (Jvm.Cond.classLink "FlotationCircuit" (74 : Nat) "FlotationCircuit$Shares") ∈ UW := List.mem_filter.mpr ⟨List.mem_of_getElem? (i := 189) rfl, rfl⟩
theorem uw_190 : (Jvm.Cond.instantiable "FlotationCircuit$Shares" (4 : Nat)) ∈ UW := List.mem_filter.mpr ⟨List.mem_of_getElem? (i := 190) rfl, rfl⟩
theorem tw_191 : (Jvm.Cond.methodLinkNest "FlotationCircuit" (76 : Nat) ({ cls := "FlotationCircuit$Shares", name := "<init>", desc := "()V" } : Jvm.MethodName) "FlotationCircuit") ∈ lw_tbl := List.mem_of_getElem? (i := 191) rfl
theorem uw_192 : (Jvm.Cond.instanceMethod ({ cls := "FlotationCircuit$Shares", name := "<init>", desc := "()V" } : Jvm.MethodName)) ∈ UW := List.mem_filter.mpr ⟨List.mem_of_getElem? (i := 192) rfl, rfl⟩
theorem uw_193 : (Jvm.Cond.code ({ cls := "FlotationCircuit$Shares", name := "<init>", desc := "()V" } : Jvm.MethodName) prog_7_method_1_code (1 : Nat) (Option.none : Option Jvm.ClassFile.FieldType)) ∈ UW := List.mem_filter.mpr ⟨List.mem_of_getElem? (i := 193) rfl, rfl⟩
theorem uw_194 : (Jvm.Cond.methodLink "FlotationCircuit$Shares" (3 : Nat) ({ cls := "java/lang/Object", name := "<init>", desc := "()V" } : Jvm.MethodName)) ∈ UW := List.mem_filter.mpr ⟨List.mem_of_getElem? (i := 194) rfl, rfl⟩
theorem uw_195 : (Jvm.Cond.fieldLink "FlotationCircuit$Shares" (9 : Nat) "FlotationCircuit$Shares" "metal" "J") ∈ UW := List.mem_filter.mpr ⟨List.mem_of_getElem? (i := 195) rfl, rfl⟩
theorem uw_196 : (Jvm.Cond.fieldLink "FlotationCircuit$Shares" (15 : Nat) "FlotationCircuit$Shares" "metalWhole" "J") ∈ UW := List.mem_filter.mpr ⟨List.mem_of_getElem? (i := 196) rfl, rfl⟩
theorem uw_197 : (Jvm.Cond.fieldLink "FlotationCircuit$Shares" (18 : Nat) "FlotationCircuit$Shares" "gangue" "J") ∈ UW := List.mem_filter.mpr ⟨List.mem_of_getElem? (i := 197) rfl, rfl⟩
theorem uw_198 : (Jvm.Cond.fieldLink "FlotationCircuit$Shares" (21 : Nat) "FlotationCircuit$Shares" "gangueWhole" "J") ∈ UW := List.mem_filter.mpr ⟨List.mem_of_getElem? (i := 198) rfl, rfl⟩
theorem uw_199 : (Jvm.Cond.lays "FlotationCircuit$Shares" "FlotationCircuit$Shares" "metal" "J") ∈ UW := List.mem_filter.mpr ⟨List.mem_of_getElem? (i := 199) rfl, rfl⟩
theorem uw_201 : (Jvm.Cond.lays "FlotationCircuit$Shares" "FlotationCircuit$Shares" "metalWhole" "J") ∈ UW := List.mem_filter.mpr ⟨List.mem_of_getElem? (i := 201) rfl, rfl⟩
theorem uw_203 : (Jvm.Cond.lays "FlotationCircuit$Shares" "FlotationCircuit$Shares" "gangue" "J") ∈ UW := List.mem_filter.mpr ⟨List.mem_of_getElem? (i := 203) rfl, rfl⟩
theorem uw_205 : (Jvm.Cond.lays "FlotationCircuit$Shares" "FlotationCircuit$Shares" "gangueWhole" "J") ∈ UW := List.mem_filter.mpr ⟨List.mem_of_getElem? (i := 205) rfl, rfl⟩
theorem uw_207 : (Jvm.Cond.superclass "FlotationCircuit$Shares" "java/lang/Object") ∈ UW := List.mem_filter.mpr ⟨List.mem_of_getElem? (i := 207) rfl, rfl⟩
theorem uw_208 : (Jvm.Cond.fieldLink "FlotationCircuit" (10 : Nat) "FlotationCircuit" "text" "LFlotationCircuit$CircuitText;") ∈ UW := List.mem_filter.mpr ⟨List.mem_of_getElem? (i := 208) rfl, rfl⟩
theorem uw_209 : (Jvm.Cond.fieldLink "FlotationCircuit" (19 : Nat) "FlotationCircuit" "state" "LFlotationCircuit$State;") ∈ UW := List.mem_filter.mpr ⟨List.mem_of_getElem? (i := 209) rfl, rfl⟩
theorem uw_210 : (Jvm.Cond.fieldLink "FlotationCircuit" (23 : Nat) "FlotationCircuit" "trial" "LFlotationCircuit$State;") ∈ UW := List.mem_filter.mpr ⟨List.mem_of_getElem? (i := 210) rfl, rfl⟩
theorem uw_211 : (Jvm.Cond.fieldLink "FlotationCircuit" (29 : Nat) "FlotationCircuit" "history" "LFlotationCircuit$History;") ∈ UW := List.mem_filter.mpr ⟨List.mem_of_getElem? (i := 211) rfl, rfl⟩
theorem uw_212 : (Jvm.Cond.fieldLink "FlotationCircuit" (38 : Nat) "FlotationCircuit" "slots" "LFlotationCircuit$StateRows;") ∈ UW := List.mem_filter.mpr ⟨List.mem_of_getElem? (i := 212) rfl, rfl⟩
theorem uw_213 : (Jvm.Cond.fieldLink "FlotationCircuit" (42 : Nat) "FlotationCircuit" "slotFilled" "[Z") ∈ UW := List.mem_filter.mpr ⟨List.mem_of_getElem? (i := 213) rfl, rfl⟩
theorem uw_214 : (Jvm.Cond.fieldLink "FlotationCircuit" (49 : Nat) "FlotationCircuit" "simulation" "LFlotationCircuit$Simulation;") ∈ UW := List.mem_filter.mpr ⟨List.mem_of_getElem? (i := 214) rfl, rfl⟩
theorem uw_215 : (Jvm.Cond.fieldLink "FlotationCircuit" (56 : Nat) "FlotationCircuit" "balance" "LFlotationCircuit$Balance;") ∈ UW := List.mem_filter.mpr ⟨List.mem_of_getElem? (i := 215) rfl, rfl⟩
theorem uw_216 : (Jvm.Cond.fieldLink "FlotationCircuit" (63 : Nat) "FlotationCircuit" "loops" "LFlotationCircuit$Loops;") ∈ UW := List.mem_filter.mpr ⟨List.mem_of_getElem? (i := 216) rfl, rfl⟩
theorem uw_217 : (Jvm.Cond.fieldLink "FlotationCircuit" (70 : Nat) "FlotationCircuit" "measurements" "LFlotationCircuit$Measurements;") ∈ UW := List.mem_filter.mpr ⟨List.mem_of_getElem? (i := 217) rfl, rfl⟩
theorem uw_218 : (Jvm.Cond.fieldLink "FlotationCircuit" (77 : Nat) "FlotationCircuit" "shares" "LFlotationCircuit$Shares;") ∈ UW := List.mem_filter.mpr ⟨List.mem_of_getElem? (i := 218) rfl, rfl⟩
theorem uw_219 : (Jvm.Cond.fieldLink "FlotationCircuit" (81 : Nat) "FlotationCircuit" "sharesAtZero" "LFlotationCircuit$Shares;") ∈ UW := List.mem_filter.mpr ⟨List.mem_of_getElem? (i := 219) rfl, rfl⟩
theorem uw_220 : (Jvm.Cond.fieldLink "FlotationCircuit" (84 : Nat) "FlotationCircuit" "sharesAtOne" "LFlotationCircuit$Shares;") ∈ UW := List.mem_filter.mpr ⟨List.mem_of_getElem? (i := 220) rfl, rfl⟩
theorem uw_221 : (Jvm.Cond.laysFinal "FlotationCircuit" "FlotationCircuit" "text" "LFlotationCircuit$CircuitText;") ∈ UW := List.mem_filter.mpr ⟨List.mem_of_getElem? (i := 221) rfl, rfl⟩
theorem uw_223 : (Jvm.Cond.laysFinal "FlotationCircuit" "FlotationCircuit" "state" "LFlotationCircuit$State;") ∈ UW := List.mem_filter.mpr ⟨List.mem_of_getElem? (i := 223) rfl, rfl⟩
theorem uw_225 : (Jvm.Cond.laysFinal "FlotationCircuit" "FlotationCircuit" "trial" "LFlotationCircuit$State;") ∈ UW := List.mem_filter.mpr ⟨List.mem_of_getElem? (i := 225) rfl, rfl⟩
theorem uw_227 : (Jvm.Cond.laysFinal "FlotationCircuit" "FlotationCircuit" "history" "LFlotationCircuit$History;") ∈ UW := List.mem_filter.mpr ⟨List.mem_of_getElem? (i := 227) rfl, rfl⟩
theorem uw_229 : (Jvm.Cond.laysFinal "FlotationCircuit" "FlotationCircuit" "slots" "LFlotationCircuit$StateRows;") ∈ UW := List.mem_filter.mpr ⟨List.mem_of_getElem? (i := 229) rfl, rfl⟩
theorem uw_231 : (Jvm.Cond.laysFinal "FlotationCircuit" "FlotationCircuit" "slotFilled" "[Z") ∈ UW := List.mem_filter.mpr ⟨List.mem_of_getElem? (i := 231) rfl, rfl⟩
theorem uw_233 : (Jvm.Cond.laysFinal "FlotationCircuit" "FlotationCircuit" "simulation" "LFlotationCircuit$Simulation;") ∈ UW := List.mem_filter.mpr ⟨List.mem_of_getElem? (i := 233) rfl, rfl⟩
theorem uw_235 : (Jvm.Cond.laysFinal "FlotationCircuit" "FlotationCircuit" "balance" "LFlotationCircuit$Balance;") ∈ UW := List.mem_filter.mpr ⟨List.mem_of_getElem? (i := 235) rfl, rfl⟩
theorem uw_237 : (Jvm.Cond.laysFinal "FlotationCircuit" "FlotationCircuit" "loops" "LFlotationCircuit$Loops;") ∈ UW := List.mem_filter.mpr ⟨List.mem_of_getElem? (i := 237) rfl, rfl⟩
theorem uw_239 : (Jvm.Cond.laysFinal "FlotationCircuit" "FlotationCircuit" "measurements" "LFlotationCircuit$Measurements;") ∈ UW := List.mem_filter.mpr ⟨List.mem_of_getElem? (i := 239) rfl, rfl⟩
theorem uw_241 : (Jvm.Cond.laysFinal "FlotationCircuit" "FlotationCircuit" "shares" "LFlotationCircuit$Shares;") ∈ UW := List.mem_filter.mpr ⟨List.mem_of_getElem? (i := 241) rfl, rfl⟩
theorem uw_243 : (Jvm.Cond.laysFinal "FlotationCircuit" "FlotationCircuit" "sharesAtZero" "LFlotationCircuit$Shares;") ∈ UW := List.mem_filter.mpr ⟨List.mem_of_getElem? (i := 243) rfl, rfl⟩
theorem uw_245 : (Jvm.Cond.laysFinal "FlotationCircuit" "FlotationCircuit" "sharesAtOne" "LFlotationCircuit$Shares;") ∈ UW := List.mem_filter.mpr ⟨List.mem_of_getElem? (i := 245) rfl, rfl⟩
theorem uw_247 : (Jvm.Cond.superclass "FlotationCircuit" "java/lang/Object") ∈ UW := List.mem_filter.mpr ⟨List.mem_of_getElem? (i := 247) rfl, rfl⟩
theorem uw_248 : (Jvm.Cond.methodLink "FlotationCircuitLaw" (111 : Nat) ({ cls := "FlotationCircuit", name := "clearText", desc := "()I" } : Jvm.MethodName)) ∈ UW := List.mem_filter.mpr ⟨List.mem_of_getElem? (i := 248) rfl, rfl⟩
theorem uw_249 : (Jvm.Cond.instanceMethod ({ cls := "FlotationCircuit", name := "clearText", desc := "()I" } : Jvm.MethodName)) ∈ UW := List.mem_filter.mpr ⟨List.mem_of_getElem? (i := 249) rfl, rfl⟩
theorem uw_250 : (Jvm.Cond.selects "FlotationCircuit" ({ cls := "FlotationCircuit", name := "clearText", desc := "()I" } : Jvm.MethodName) ({ cls := "FlotationCircuit", name := "clearText", desc := "()I" } : Jvm.MethodName)) ∈ UW := List.mem_filter.mpr ⟨List.mem_of_getElem? (i := 250) rfl, rfl⟩
theorem uw_251 : (Jvm.Cond.code ({ cls := "FlotationCircuit", name := "clearText", desc := "()I" } : Jvm.MethodName) prog_1_method_3_code (1 : Nat) (Option.some Jvm.ClassFile.FieldType.int)) ∈ UW := List.mem_filter.mpr ⟨List.mem_of_getElem? (i := 251) rfl, rfl⟩
theorem uw_252 : (Jvm.Cond.methodLink "FlotationCircuit" (106 : Nat) ({ cls := "FlotationCircuit$CircuitText", name := "empty", desc := "()I" } : Jvm.MethodName)) ∈ UW := List.mem_filter.mpr ⟨List.mem_of_getElem? (i := 252) rfl, rfl⟩
theorem uw_253 : (Jvm.Cond.instanceMethod ({ cls := "FlotationCircuit$CircuitText", name := "empty", desc := "()I" } : Jvm.MethodName)) ∈ UW := List.mem_filter.mpr ⟨List.mem_of_getElem? (i := 253) rfl, rfl⟩
theorem uw_254 : (Jvm.Cond.selects "FlotationCircuit$CircuitText" ({ cls := "FlotationCircuit$CircuitText", name := "empty", desc := "()I" } : Jvm.MethodName) ({ cls := "FlotationCircuit$CircuitText", name := "empty", desc := "()I" } : Jvm.MethodName)) ∈ UW := List.mem_filter.mpr ⟨List.mem_of_getElem? (i := 254) rfl, rfl⟩
theorem uw_255 : (Jvm.Cond.code ({ cls := "FlotationCircuit$CircuitText", name := "empty", desc := "()I" } : Jvm.MethodName) prog_3_method_4_code (2 : Nat) (Option.some Jvm.ClassFile.FieldType.int)) ∈ UW := List.mem_filter.mpr ⟨List.mem_of_getElem? (i := 255) rfl, rfl⟩
theorem uw_256 : (Jvm.Cond.methodLink "FlotationCircuitLaw" (115 : Nat) ({ cls := "FlotationCircuit", name := "errorPosition", desc := "()I" } : Jvm.MethodName)) ∈ UW := List.mem_filter.mpr ⟨List.mem_of_getElem? (i := 256) rfl, rfl⟩
theorem uw_257 : (Jvm.Cond.instanceMethod ({ cls := "FlotationCircuit", name := "errorPosition", desc := "()I" } : Jvm.MethodName)) ∈ UW := List.mem_filter.mpr ⟨List.mem_of_getElem? (i := 257) rfl, rfl⟩
theorem uw_258 : (Jvm.Cond.selects "FlotationCircuit" ({ cls := "FlotationCircuit", name := "errorPosition", desc := "()I" } : Jvm.MethodName) ({ cls := "FlotationCircuit", name := "errorPosition", desc := "()I" } : Jvm.MethodName)) ∈ UW := List.mem_filter.mpr ⟨List.mem_of_getElem? (i := 258) rfl, rfl⟩
theorem uw_259 : (Jvm.Cond.code ({ cls := "FlotationCircuit", name := "errorPosition", desc := "()I" } : Jvm.MethodName) prog_1_method_4_code (1 : Nat) (Option.some Jvm.ClassFile.FieldType.int)) ∈ UW := List.mem_filter.mpr ⟨List.mem_of_getElem? (i := 259) rfl, rfl⟩
theorem uw_260 : (Jvm.Cond.methodLink "FlotationCircuit" (110 : Nat) ({ cls := "FlotationCircuit$CircuitText", name := "firstError", desc := "()I" } : Jvm.MethodName)) ∈ UW := List.mem_filter.mpr ⟨List.mem_of_getElem? (i := 260) rfl, rfl⟩
theorem uw_261 : (Jvm.Cond.instanceMethod ({ cls := "FlotationCircuit$CircuitText", name := "firstError", desc := "()I" } : Jvm.MethodName)) ∈ UW := List.mem_filter.mpr ⟨List.mem_of_getElem? (i := 261) rfl, rfl⟩
theorem uw_262 : (Jvm.Cond.selects "FlotationCircuit$CircuitText" ({ cls := "FlotationCircuit$CircuitText", name := "firstError", desc := "()I" } : Jvm.MethodName) ({ cls := "FlotationCircuit$CircuitText", name := "firstError", desc := "()I" } : Jvm.MethodName)) ∈ UW := List.mem_filter.mpr ⟨List.mem_of_getElem? (i := 262) rfl, rfl⟩
theorem uw_263 : (Jvm.Cond.code ({ cls := "FlotationCircuit$CircuitText", name := "firstError", desc := "()I" } : Jvm.MethodName) prog_3_method_5_code (2 : Nat) (Option.some Jvm.ClassFile.FieldType.int)) ∈ UW := List.mem_filter.mpr ⟨List.mem_of_getElem? (i := 263) rfl, rfl⟩
theorem uw_264 : (Jvm.Cond.methodLink "FlotationCircuit$CircuitText" (19 : Nat) ({ cls := "FlotationCircuit$CircuitText", name := "isAllowed", desc := "(IC)Z" } : Jvm.MethodName)) ∈ UW := List.mem_filter.mpr ⟨List.mem_of_getElem? (i := 264) rfl, rfl⟩
theorem uw_265 : (Jvm.Cond.static ({ cls := "FlotationCircuit$CircuitText", name := "isAllowed", desc := "(IC)Z" } : Jvm.MethodName)) ∈ UW := List.mem_filter.mpr ⟨List.mem_of_getElem? (i := 265) rfl, rfl⟩
theorem uw_266 : (Jvm.Cond.code ({ cls := "FlotationCircuit$CircuitText", name := "isAllowed", desc := "(IC)Z" } : Jvm.MethodName) prog_3_method_6_code (3 : Nat) (Option.some Jvm.ClassFile.FieldType.boolean)) ∈ UW := List.mem_filter.mpr ⟨List.mem_of_getElem? (i := 266) rfl, rfl⟩
theorem uw_267 : (Jvm.Cond.methodLink "FlotationCircuit$CircuitText" (23 : Nat) ({ cls := "FlotationCircuit$CircuitText", name := "isCellDigit", desc := "(C)Z" } : Jvm.MethodName)) ∈ UW := List.mem_filter.mpr ⟨List.mem_of_getElem? (i := 267) rfl, rfl⟩
theorem uw_268 : (Jvm.Cond.static ({ cls := "FlotationCircuit$CircuitText", name := "isCellDigit", desc := "(C)Z" } : Jvm.MethodName)) ∈ UW := List.mem_filter.mpr ⟨List.mem_of_getElem? (i := 268) rfl, rfl⟩
theorem uw_269 : (Jvm.Cond.code ({ cls := "FlotationCircuit$CircuitText", name := "isCellDigit", desc := "(C)Z" } : Jvm.MethodName) prog_3_method_9_code (1 : Nat) (Option.some Jvm.ClassFile.FieldType.boolean)) ∈ UW := List.mem_filter.mpr ⟨List.mem_of_getElem? (i := 269) rfl, rfl⟩
theorem uw_270 : (Jvm.Cond.methodLink "FlotationCircuit$CircuitText" (27 : Nat) ({ cls := "FlotationCircuit$CircuitText", name := "isDigit", desc := "(C)Z" } : Jvm.MethodName)) ∈ UW := List.mem_filter.mpr ⟨List.mem_of_getElem? (i := 270) rfl, rfl⟩
theorem uw_271 : (Jvm.Cond.static ({ cls := "FlotationCircuit$CircuitText", name := "isDigit", desc := "(C)Z" } : Jvm.MethodName)) ∈ UW := List.mem_filter.mpr ⟨List.mem_of_getElem? (i := 271) rfl, rfl⟩
theorem uw_272 : (Jvm.Cond.code ({ cls := "FlotationCircuit$CircuitText", name := "isDigit", desc := "(C)Z" } : Jvm.MethodName) prog_3_method_8_code (1 : Nat) (Option.some Jvm.ClassFile.FieldType.boolean)) ∈ UW := List.mem_filter.mpr ⟨List.mem_of_getElem? (i := 272) rfl, rfl⟩
theorem uw_273 : (Jvm.Cond.methodLink "FlotationCircuit$CircuitText" (30 : Nat) ({ cls := "FlotationCircuit$CircuitText", name := "isAllowedInCell", desc := "(IC)Z" } : Jvm.MethodName)) ∈ UW := List.mem_filter.mpr ⟨List.mem_of_getElem? (i := 273) rfl, rfl⟩
theorem uw_274 : (Jvm.Cond.static ({ cls := "FlotationCircuit$CircuitText", name := "isAllowedInCell", desc := "(IC)Z" } : Jvm.MethodName)) ∈ UW := List.mem_filter.mpr ⟨List.mem_of_getElem? (i := 274) rfl, rfl⟩
theorem uw_275 : (Jvm.Cond.code ({ cls := "FlotationCircuit$CircuitText", name := "isAllowedInCell", desc := "(IC)Z" } : Jvm.MethodName) prog_3_method_7_code (2 : Nat) (Option.some Jvm.ClassFile.FieldType.boolean)) ∈ UW := List.mem_filter.mpr ⟨List.mem_of_getElem? (i := 275) rfl, rfl⟩
theorem uw_276 : (Jvm.Cond.methodLink "FlotationCircuitLaw" (123 : Nat) ({ cls := "FlotationCircuit", name := "cellCount", desc := "()I" } : Jvm.MethodName)) ∈ UW := List.mem_filter.mpr ⟨List.mem_of_getElem? (i := 276) rfl, rfl⟩
theorem uw_277 : (Jvm.Cond.instanceMethod ({ cls := "FlotationCircuit", name := "cellCount", desc := "()I" } : Jvm.MethodName)) ∈ UW := List.mem_filter.mpr ⟨List.mem_of_getElem? (i := 277) rfl, rfl⟩
theorem uw_278 : (Jvm.Cond.selects "FlotationCircuit" ({ cls := "FlotationCircuit", name := "cellCount", desc := "()I" } : Jvm.MethodName) ({ cls := "FlotationCircuit", name := "cellCount", desc := "()I" } : Jvm.MethodName)) ∈ UW := List.mem_filter.mpr ⟨List.mem_of_getElem? (i := 278) rfl, rfl⟩
theorem uw_279 : (Jvm.Cond.code ({ cls := "FlotationCircuit", name := "cellCount", desc := "()I" } : Jvm.MethodName) prog_1_method_6_code (1 : Nat) (Option.some Jvm.ClassFile.FieldType.int)) ∈ UW := List.mem_filter.mpr ⟨List.mem_of_getElem? (i := 279) rfl, rfl⟩
theorem uw_280 : (Jvm.Cond.methodLink "FlotationCircuit" (122 : Nat) ({ cls := "FlotationCircuit$State", name := "count", desc := "()I" } : Jvm.MethodName)) ∈ UW := List.mem_filter.mpr ⟨List.mem_of_getElem? (i := 280) rfl, rfl⟩
theorem uw_281 : (Jvm.Cond.instanceMethod ({ cls := "FlotationCircuit$State", name := "count", desc := "()I" } : Jvm.MethodName)) ∈ UW := List.mem_filter.mpr ⟨List.mem_of_getElem? (i := 281) rfl, rfl⟩
theorem uw_282 : (Jvm.Cond.selects "FlotationCircuit$State" ({ cls := "FlotationCircuit$State", name := "count", desc := "()I" } : Jvm.MethodName) ({ cls := "FlotationCircuit$State", name := "count", desc := "()I" } : Jvm.MethodName)) ∈ UW := List.mem_filter.mpr ⟨List.mem_of_getElem? (i := 282) rfl, rfl⟩
theorem uw_283 : (Jvm.Cond.code ({ cls := "FlotationCircuit$State", name := "count", desc := "()I" } : Jvm.MethodName) prog_9_method_2_code (1 : Nat) (Option.some Jvm.ClassFile.FieldType.int)) ∈ UW := List.mem_filter.mpr ⟨List.mem_of_getElem? (i := 283) rfl, rfl⟩
theorem uw_284 : (Jvm.Cond.methodLink "FlotationCircuitLaw" (134 : Nat) ({ cls := "FlotationCircuit", name := "feedCell", desc := "()I" } : Jvm.MethodName)) ∈ UW := List.mem_filter.mpr ⟨List.mem_of_getElem? (i := 284) rfl, rfl⟩
theorem uw_285 : (Jvm.Cond.instanceMethod ({ cls := "FlotationCircuit", name := "feedCell", desc := "()I" } : Jvm.MethodName)) ∈ UW := List.mem_filter.mpr ⟨List.mem_of_getElem? (i := 285) rfl, rfl⟩
theorem uw_286 : (Jvm.Cond.selects "FlotationCircuit" ({ cls := "FlotationCircuit", name := "feedCell", desc := "()I" } : Jvm.MethodName) ({ cls := "FlotationCircuit", name := "feedCell", desc := "()I" } : Jvm.MethodName)) ∈ UW := List.mem_filter.mpr ⟨List.mem_of_getElem? (i := 286) rfl, rfl⟩
theorem uw_287 : (Jvm.Cond.code ({ cls := "FlotationCircuit", name := "feedCell", desc := "()I" } : Jvm.MethodName) prog_1_method_9_code (1 : Nat) (Option.some Jvm.ClassFile.FieldType.int)) ∈ UW := List.mem_filter.mpr ⟨List.mem_of_getElem? (i := 287) rfl, rfl⟩
theorem uw_288 : (Jvm.Cond.methodLink "FlotationCircuit" (138 : Nat) ({ cls := "FlotationCircuit$State", name := "fedCell", desc := "()I" } : Jvm.MethodName)) ∈ UW := List.mem_filter.mpr ⟨List.mem_of_getElem? (i := 288) rfl, rfl⟩
theorem uw_289 : (Jvm.Cond.instanceMethod ({ cls := "FlotationCircuit$State", name := "fedCell", desc := "()I" } : Jvm.MethodName)) ∈ UW := List.mem_filter.mpr ⟨List.mem_of_getElem? (i := 289) rfl, rfl⟩
theorem uw_290 : (Jvm.Cond.selects "FlotationCircuit$State" ({ cls := "FlotationCircuit$State", name := "fedCell", desc := "()I" } : Jvm.MethodName) ({ cls := "FlotationCircuit$State", name := "fedCell", desc := "()I" } : Jvm.MethodName)) ∈ UW := List.mem_filter.mpr ⟨List.mem_of_getElem? (i := 290) rfl, rfl⟩
theorem uw_291 : (Jvm.Cond.code ({ cls := "FlotationCircuit$State", name := "fedCell", desc := "()I" } : Jvm.MethodName) prog_9_method_10_code (1 : Nat) (Option.some Jvm.ClassFile.FieldType.int)) ∈ UW := List.mem_filter.mpr ⟨List.mem_of_getElem? (i := 291) rfl, rfl⟩
theorem uw_292 : (Jvm.Cond.methodLink "FlotationCircuitLaw" (161 : Nat) ({ cls := "FlotationCircuit", name := "drain", desc := "()I" } : Jvm.MethodName)) ∈ UW := List.mem_filter.mpr ⟨List.mem_of_getElem? (i := 292) rfl, rfl⟩
theorem uw_293 : (Jvm.Cond.instanceMethod ({ cls := "FlotationCircuit", name := "drain", desc := "()I" } : Jvm.MethodName)) ∈ UW := List.mem_filter.mpr ⟨List.mem_of_getElem? (i := 293) rfl, rfl⟩
theorem uw_294 : (Jvm.Cond.selects "FlotationCircuit" ({ cls := "FlotationCircuit", name := "drain", desc := "()I" } : Jvm.MethodName) ({ cls := "FlotationCircuit", name := "drain", desc := "()I" } : Jvm.MethodName)) ∈ UW := List.mem_filter.mpr ⟨List.mem_of_getElem? (i := 294) rfl, rfl⟩
theorem uw_295 : (Jvm.Cond.code ({ cls := "FlotationCircuit", name := "drain", desc := "()I" } : Jvm.MethodName) prog_1_method_17_code (2 : Nat) (Option.some Jvm.ClassFile.FieldType.int)) ∈ UW := List.mem_filter.mpr ⟨List.mem_of_getElem? (i := 295) rfl, rfl⟩
theorem uw_296 : (Jvm.Cond.methodLink "FlotationCircuit" (150 : Nat) ({ cls := "FlotationCircuit$History", name := "remember", desc := "(LFlotationCircuit$State;)V" } : Jvm.MethodName)) ∈ UW := List.mem_filter.mpr ⟨List.mem_of_getElem? (i := 296) rfl, rfl⟩
theorem uw_297 : (Jvm.Cond.instanceMethod ({ cls := "FlotationCircuit$History", name := "remember", desc := "(LFlotationCircuit$State;)V" } : Jvm.MethodName)) ∈ UW := List.mem_filter.mpr ⟨List.mem_of_getElem? (i := 297) rfl, rfl⟩
theorem uw_298 : (Jvm.Cond.selects "FlotationCircuit$History" ({ cls := "FlotationCircuit$History", name := "remember", desc := "(LFlotationCircuit$State;)V" } : Jvm.MethodName) ({ cls := "FlotationCircuit$History", name := "remember", desc := "(LFlotationCircuit$State;)V" } : Jvm.MethodName)) ∈ UW := List.mem_filter.mpr ⟨List.mem_of_getElem? (i := 298) rfl, rfl⟩
theorem uw_299 : (Jvm.Cond.code ({ cls := "FlotationCircuit$History", name := "remember", desc := "(LFlotationCircuit$State;)V" } : Jvm.MethodName) prog_4_method_3_code (2 : Nat) (Option.none : Option Jvm.ClassFile.FieldType)) ∈ UW := List.mem_filter.mpr ⟨List.mem_of_getElem? (i := 299) rfl, rfl⟩
set_option maxRecDepth 100000 in
theorem uw_300 : (Jvm.Cond.methodLink "FlotationCircuit$History" (27 : Nat) ({ cls := "FlotationCircuit$StateRows", name := "put", desc := "(ILFlotationCircuit$State;)V" } : Jvm.MethodName)) ∈ UW := List.mem_filter.mpr ⟨List.mem_of_getElem? (i := 300) rfl, rfl⟩
set_option maxRecDepth 100000 in
theorem uw_301 : (Jvm.Cond.instanceMethod ({ cls := "FlotationCircuit$StateRows", name := "put", desc := "(ILFlotationCircuit$State;)V" } : Jvm.MethodName)) ∈ UW := List.mem_filter.mpr ⟨List.mem_of_getElem? (i := 301) rfl, rfl⟩
set_option maxRecDepth 100000 in
theorem uw_302 : (Jvm.Cond.selects "FlotationCircuit$StateRows" ({ cls := "FlotationCircuit$StateRows", name := "put", desc := "(ILFlotationCircuit$State;)V" } : Jvm.MethodName) ({ cls := "FlotationCircuit$StateRows", name := "put", desc := "(ILFlotationCircuit$State;)V" } : Jvm.MethodName)) ∈ UW := List.mem_filter.mpr ⟨List.mem_of_getElem? (i := 302) rfl, rfl⟩
set_option maxRecDepth 100000 in
theorem uw_303 : (Jvm.Cond.code ({ cls := "FlotationCircuit$StateRows", name := "put", desc := "(ILFlotationCircuit$State;)V" } : Jvm.MethodName) prog_10_method_2_code (3 : Nat) (Option.none : Option Jvm.ClassFile.FieldType)) ∈ UW := List.mem_filter.mpr ⟨List.mem_of_getElem? (i := 303) rfl, rfl⟩
set_option maxRecDepth 100000 in
theorem uw_304 : (Jvm.Cond.methodLink "FlotationCircuit$StateRows" (26 : Nat) ({ cls := "java/lang/System", name := "arraycopy", desc := "(Ljava/lang/Object;ILjava/lang/Object;II)V" } : Jvm.MethodName)) ∈ UW := List.mem_filter.mpr ⟨List.mem_of_getElem? (i := 304) rfl, rfl⟩
set_option maxRecDepth 100000 in
theorem uw_305 : (Jvm.Cond.static ({ cls := "java/lang/System", name := "arraycopy", desc := "(Ljava/lang/Object;ILjava/lang/Object;II)V" } : Jvm.MethodName)) ∈ UW := List.mem_filter.mpr ⟨List.mem_of_getElem? (i := 305) rfl, rfl⟩
set_option maxRecDepth 100000 in
theorem uw_306 : (Jvm.Cond.native ({ cls := "java/lang/System", name := "arraycopy", desc := "(Ljava/lang/Object;ILjava/lang/Object;II)V" } : Jvm.MethodName)) ∈ UW := List.mem_filter.mpr ⟨List.mem_of_getElem? (i := 306) rfl, rfl⟩
set_option maxRecDepth 100000 in
theorem uw_307 : (Jvm.Cond.methodLink "FlotationCircuit$History" (31 : Nat) ({ cls := "java/lang/Math", name := "min", desc := "(II)I" } : Jvm.MethodName)) ∈ UW := List.mem_filter.mpr ⟨List.mem_of_getElem? (i := 307) rfl, rfl⟩
set_option maxRecDepth 100000 in
theorem uw_308 : (Jvm.Cond.static ({ cls := "java/lang/Math", name := "min", desc := "(II)I" } : Jvm.MethodName)) ∈ UW := List.mem_filter.mpr ⟨List.mem_of_getElem? (i := 308) rfl, rfl⟩
set_option maxRecDepth 100000 in
theorem uw_309 : (Jvm.Cond.code ({ cls := "java/lang/Math", name := "min", desc := "(II)I" } : Jvm.MethodName) prog_18_method_69_code (2 : Nat) (Option.some Jvm.ClassFile.FieldType.int)) ∈ UW := List.mem_filter.mpr ⟨List.mem_of_getElem? (i := 309) rfl, rfl⟩
set_option maxRecDepth 100000 in
theorem uw_310 : (Jvm.Cond.methodLink "FlotationCircuit" (177 : Nat) ({ cls := "FlotationCircuit$State", name := "sumOfContents", desc := "()I" } : Jvm.MethodName)) ∈ UW := List.mem_filter.mpr ⟨List.mem_of_getElem? (i := 310) rfl, rfl⟩
set_option maxRecDepth 100000 in
theorem uw_311 : (Jvm.Cond.instanceMethod ({ cls := "FlotationCircuit$State", name := "sumOfContents", desc := "()I" } : Jvm.MethodName)) ∈ UW := List.mem_filter.mpr ⟨List.mem_of_getElem? (i := 311) rfl, rfl⟩
set_option maxRecDepth 100000 in
theorem uw_312 : (Jvm.Cond.selects "FlotationCircuit$State" ({ cls := "FlotationCircuit$State", name := "sumOfContents", desc := "()I" } : Jvm.MethodName) ({ cls := "FlotationCircuit$State", name := "sumOfContents", desc := "()I" } : Jvm.MethodName)) ∈ UW := List.mem_filter.mpr ⟨List.mem_of_getElem? (i := 312) rfl, rfl⟩
set_option maxRecDepth 100000 in
theorem uw_313 : (Jvm.Cond.code ({ cls := "FlotationCircuit$State", name := "sumOfContents", desc := "()I" } : Jvm.MethodName) prog_9_method_22_code (3 : Nat) (Option.some Jvm.ClassFile.FieldType.int)) ∈ UW := List.mem_filter.mpr ⟨List.mem_of_getElem? (i := 313) rfl, rfl⟩
set_option maxRecDepth 100000 in
theorem uw_314 : (Jvm.Cond.methodLink "FlotationCircuit$State" (36 : Nat) ({ cls := "FlotationCircuit$State", name := "held", desc := "(II)I" } : Jvm.MethodName)) ∈ UW := List.mem_filter.mpr ⟨List.mem_of_getElem? (i := 314) rfl, rfl⟩
set_option maxRecDepth 100000 in
theorem uw_315 : (Jvm.Cond.instanceMethod ({ cls := "FlotationCircuit$State", name := "held", desc := "(II)I" } : Jvm.MethodName)) ∈ UW := List.mem_filter.mpr ⟨List.mem_of_getElem? (i := 315) rfl, rfl⟩
set_option maxRecDepth 100000 in
theorem uw_316 : (Jvm.Cond.selects "FlotationCircuit$State" ({ cls := "FlotationCircuit$State", name := "held", desc := "(II)I" } : Jvm.MethodName) ({ cls := "FlotationCircuit$State", name := "held", desc := "(II)I" } : Jvm.MethodName)) ∈ UW := List.mem_filter.mpr ⟨List.mem_of_getElem? (i := 316) rfl, rfl⟩
set_option maxRecDepth 100000 in
theorem uw_317 : (Jvm.Cond.code ({ cls := "FlotationCircuit$State", name := "held", desc := "(II)I" } : Jvm.MethodName) prog_9_method_15_code (3 : Nat) (Option.some Jvm.ClassFile.FieldType.int)) ∈ UW := List.mem_filter.mpr ⟨List.mem_of_getElem? (i := 317) rfl, rfl⟩
set_option maxRecDepth 100000 in
theorem uw_318 : (Jvm.Cond.methodLink "FlotationCircuit" (180 : Nat) ({ cls := "FlotationCircuit$State", name := "emptyAll", desc := "()V" } : Jvm.MethodName)) ∈ UW := List.mem_filter.mpr ⟨List.mem_of_getElem? (i := 318) rfl, rfl⟩
set_option maxRecDepth 100000 in
theorem uw_319 : (Jvm.Cond.instanceMethod ({ cls := "FlotationCircuit$State", name := "emptyAll", desc := "()V" } : Jvm.MethodName)) ∈ UW := List.mem_filter.mpr ⟨List.mem_of_getElem? (i := 319) rfl, rfl⟩
set_option maxRecDepth 100000 in
theorem uw_320 : (Jvm.Cond.selects "FlotationCircuit$State" ({ cls := "FlotationCircuit$State", name := "emptyAll", desc := "()V" } : Jvm.MethodName) ({ cls := "FlotationCircuit$State", name := "emptyAll", desc := "()V" } : Jvm.MethodName)) ∈ UW := List.mem_filter.mpr ⟨List.mem_of_getElem? (i := 320) rfl, rfl⟩
set_option maxRecDepth 100000 in
theorem uw_321 : (Jvm.Cond.code ({ cls := "FlotationCircuit$State", name := "emptyAll", desc := "()V" } : Jvm.MethodName) prog_9_method_23_code (2 : Nat) (Option.none : Option Jvm.ClassFile.FieldType)) ∈ UW := List.mem_filter.mpr ⟨List.mem_of_getElem? (i := 321) rfl, rfl⟩
set_option maxRecDepth 100000 in
theorem uw_322 : (Jvm.Cond.methodLink "FlotationCircuitLaw" (174 : Nat) ({ cls := "FlotationCircuit", name := "hasSteadyState", desc := "()Z" } : Jvm.MethodName)) ∈ UW := List.mem_filter.mpr ⟨List.mem_of_getElem? (i := 322) rfl, rfl⟩
set_option maxRecDepth 100000 in
theorem uw_323 : (Jvm.Cond.instanceMethod ({ cls := "FlotationCircuit", name := "hasSteadyState", desc := "()Z" } : Jvm.MethodName)) ∈ UW := List.mem_filter.mpr ⟨List.mem_of_getElem? (i := 323) rfl, rfl⟩
set_option maxRecDepth 100000 in
theorem uw_324 : (Jvm.Cond.selects "FlotationCircuit" ({ cls := "FlotationCircuit", name := "hasSteadyState", desc := "()Z" } : Jvm.MethodName) ({ cls := "FlotationCircuit", name := "hasSteadyState", desc := "()Z" } : Jvm.MethodName)) ∈ UW := List.mem_filter.mpr ⟨List.mem_of_getElem? (i := 324) rfl, rfl⟩
set_option maxRecDepth 100000 in
theorem uw_325 : (Jvm.Cond.code ({ cls := "FlotationCircuit", name := "hasSteadyState", desc := "()Z" } : Jvm.MethodName) prog_1_method_21_code (1 : Nat) (Option.some Jvm.ClassFile.FieldType.boolean)) ∈ UW := List.mem_filter.mpr ⟨List.mem_of_getElem? (i := 325) rfl, rfl⟩
set_option maxRecDepth 100000 in
theorem uw_326 : (Jvm.Cond.methodLink "FlotationCircuit" (203 : Nat) ({ cls := "FlotationCircuit$Shares", name := "compute", desc := "(LFlotationCircuit$State;LFlotationCircuit$Balance;)V" } : Jvm.MethodName)) ∈ UW := List.mem_filter.mpr ⟨List.mem_of_getElem? (i := 326) rfl, rfl⟩
set_option maxRecDepth 100000 in
theorem uw_327 : (Jvm.Cond.instanceMethod ({ cls := "FlotationCircuit$Shares", name := "compute", desc := "(LFlotationCircuit$State;LFlotationCircuit$Balance;)V" } : Jvm.MethodName)) ∈ UW := List.mem_filter.mpr ⟨List.mem_of_getElem? (i := 327) rfl, rfl⟩
set_option maxRecDepth 100000 in
theorem uw_328 : (Jvm.Cond.selects "FlotationCircuit$Shares" ({ cls := "FlotationCircuit$Shares", name := "compute", desc := "(LFlotationCircuit$State;LFlotationCircuit$Balance;)V" } : Jvm.MethodName) ({ cls := "FlotationCircuit$Shares", name := "compute", desc := "(LFlotationCircuit$State;LFlotationCircuit$Balance;)V" } : Jvm.MethodName)) ∈ UW := List.mem_filter.mpr ⟨List.mem_of_getElem? (i := 328) rfl, rfl⟩
set_option maxRecDepth 100000 in
theorem uw_329 : (Jvm.Cond.code ({ cls := "FlotationCircuit$Shares", name := "compute", desc := "(LFlotationCircuit$State;LFlotationCircuit$Balance;)V" } : Jvm.MethodName) prog_7_method_2_code (3 : Nat) (Option.none : Option Jvm.ClassFile.FieldType)) ∈ UW := List.mem_filter.mpr ⟨List.mem_of_getElem? (i := 329) rfl, rfl⟩
set_option maxRecDepth 100000 in
theorem uw_330 : (Jvm.Cond.methodLink "FlotationCircuit$Shares" (24 : Nat) ({ cls := "FlotationCircuit$Balance", name := "solve", desc := "(LFlotationCircuit$State;II)V" } : Jvm.MethodName)) ∈ UW := List.mem_filter.mpr ⟨List.mem_of_getElem? (i := 330) rfl, rfl⟩
set_option maxRecDepth 100000 in
theorem uw_331 : (Jvm.Cond.instanceMethod ({ cls := "FlotationCircuit$Balance", name := "solve", desc := "(LFlotationCircuit$State;II)V" } : Jvm.MethodName)) ∈ UW := List.mem_filter.mpr ⟨List.mem_of_getElem? (i := 331) rfl, rfl⟩
set_option maxRecDepth 100000 in
theorem uw_332 : (Jvm.Cond.selects "FlotationCircuit$Balance" ({ cls := "FlotationCircuit$Balance", name := "solve", desc := "(LFlotationCircuit$State;II)V" } : Jvm.MethodName) ({ cls := "FlotationCircuit$Balance", name := "solve", desc := "(LFlotationCircuit$State;II)V" } : Jvm.MethodName)) ∈ UW := List.mem_filter.mpr ⟨List.mem_of_getElem? (i := 332) rfl, rfl⟩
set_option maxRecDepth 100000 in
theorem uw_333 : (Jvm.Cond.code ({ cls := "FlotationCircuit$Balance", name := "solve", desc := "(LFlotationCircuit$State;II)V" } : Jvm.MethodName) prog_2_method_3_code (5 : Nat) (Option.none : Option Jvm.ClassFile.FieldType)) ∈ UW := List.mem_filter.mpr ⟨List.mem_of_getElem? (i := 333) rfl, rfl⟩
set_option maxRecDepth 100000 in
theorem uw_334 : (Jvm.Cond.methodLink "FlotationCircuit$Balance" (25 : Nat) ({ cls := "FlotationCircuit$Balance", name := "fillEquations", desc := "(LFlotationCircuit$State;I)V" } : Jvm.MethodName)) ∈ UW := List.mem_filter.mpr ⟨List.mem_of_getElem? (i := 334) rfl, rfl⟩
set_option maxRecDepth 100000 in
theorem uw_336 : (Jvm.Cond.instanceMethod ({ cls := "FlotationCircuit$Balance", name := "fillEquations", desc := "(LFlotationCircuit$State;I)V" } : Jvm.MethodName)) ∈ UW := List.mem_filter.mpr ⟨List.mem_of_getElem? (i := 336) rfl, rfl⟩
set_option maxRecDepth 100000 in
theorem uw_337 : (Jvm.Cond.code ({ cls := "FlotationCircuit$Balance", name := "fillEquations", desc := "(LFlotationCircuit$State;I)V" } : Jvm.MethodName) prog_2_method_6_code (6 : Nat) (Option.none : Option Jvm.ClassFile.FieldType)) ∈ UW := List.mem_filter.mpr ⟨List.mem_of_getElem? (i := 337) rfl, rfl⟩
set_option maxRecDepth 100000 in
theorem uw_338 : (Jvm.Cond.methodLink "FlotationCircuit$Balance" (54 : Nat) ({ cls := "java/util/Arrays", name := "fill", desc := "([JJ)V" } : Jvm.MethodName)) ∈ UW := List.mem_filter.mpr ⟨List.mem_of_getElem? (i := 338) rfl, rfl⟩
set_option maxRecDepth 100000 in
theorem uw_339 : (Jvm.Cond.static ({ cls := "java/util/Arrays", name := "fill", desc := "([JJ)V" } : Jvm.MethodName)) ∈ UW := List.mem_filter.mpr ⟨List.mem_of_getElem? (i := 339) rfl, rfl⟩
set_option maxRecDepth 100000 in
theorem uw_340 : (Jvm.Cond.code ({ cls := "java/util/Arrays", name := "fill", desc := "([JJ)V" } : Jvm.MethodName) prog_23_method_101_code (5 : Nat) (Option.none : Option Jvm.ClassFile.FieldType)) ∈ UW := List.mem_filter.mpr ⟨List.mem_of_getElem? (i := 340) rfl, rfl⟩
set_option maxRecDepth 100000 in
theorem uw_341 : (Jvm.Cond.methodLink "FlotationCircuit$Balance" (29 : Nat) ({ cls := "FlotationCircuit$State", name := "count", desc := "()I" } : Jvm.MethodName)) ∈ UW := List.mem_filter.mpr ⟨List.mem_of_getElem? (i := 341) rfl, rfl⟩
set_option maxRecDepth 100000 in
theorem uw_342 : (Jvm.Cond.constantLong "FlotationCircuit$Balance" (60 : Nat) (100 : Int64)) ∈ UW := List.mem_filter.mpr ⟨List.mem_of_getElem? (i := 342) rfl, rfl⟩
set_option maxRecDepth 100000 in
theorem uw_343 : (Jvm.Cond.methodLink "FlotationCircuit$Balance" (62 : Nat) ({ cls := "FlotationCircuit$State", name := "target", desc := "(II)I" } : Jvm.MethodName)) ∈ UW := List.mem_filter.mpr ⟨List.mem_of_getElem? (i := 343) rfl, rfl⟩
set_option maxRecDepth 100000 in
theorem uw_344 : (Jvm.Cond.instanceMethod ({ cls := "FlotationCircuit$State", name := "target", desc := "(II)I" } : Jvm.MethodName)) ∈ UW := List.mem_filter.mpr ⟨List.mem_of_getElem? (i := 344) rfl, rfl⟩
set_option maxRecDepth 100000 in
theorem uw_345 : (Jvm.Cond.selects "FlotationCircuit$State" ({ cls := "FlotationCircuit$State", name := "target", desc := "(II)I" } : Jvm.MethodName) ({ cls := "FlotationCircuit$State", name := "target", desc := "(II)I" } : Jvm.MethodName)) ∈ UW := List.mem_filter.mpr ⟨List.mem_of_getElem? (i := 345) rfl, rfl⟩
set_option maxRecDepth 100000 in
theorem uw_346 : (Jvm.Cond.code ({ cls := "FlotationCircuit$State", name := "target", desc := "(II)I" } : Jvm.MethodName) prog_9_method_9_code (3 : Nat) (Option.some Jvm.ClassFile.FieldType.int)) ∈ UW := List.mem_filter.mpr ⟨List.mem_of_getElem? (i := 346) rfl, rfl⟩
set_option maxRecDepth 100000 in
theorem uw_347 : (Jvm.Cond.methodLink "FlotationCircuit$State" (19 : Nat) ({ cls := "FlotationCircuit$State", name := "route", desc := "(II)I" } : Jvm.MethodName)) ∈ UW := List.mem_filter.mpr ⟨List.mem_of_getElem? (i := 347) rfl, rfl⟩
set_option maxRecDepth 100000 in
theorem uw_348 : (Jvm.Cond.instanceMethod ({ cls := "FlotationCircuit$State", name := "route", desc := "(II)I" } : Jvm.MethodName)) ∈ UW := List.mem_filter.mpr ⟨List.mem_of_getElem? (i := 348) rfl, rfl⟩
set_option maxRecDepth 100000 in
theorem uw_349 : (Jvm.Cond.selects "FlotationCircuit$State" ({ cls := "FlotationCircuit$State", name := "route", desc := "(II)I" } : Jvm.MethodName) ({ cls := "FlotationCircuit$State", name := "route", desc := "(II)I" } : Jvm.MethodName)) ∈ UW := List.mem_filter.mpr ⟨List.mem_of_getElem? (i := 349) rfl, rfl⟩
set_option maxRecDepth 100000 in
theorem uw_350 : (Jvm.Cond.code ({ cls := "FlotationCircuit$State", name := "route", desc := "(II)I" } : Jvm.MethodName) prog_9_method_7_code (3 : Nat) (Option.some Jvm.ClassFile.FieldType.int)) ∈ UW := List.mem_filter.mpr ⟨List.mem_of_getElem? (i := 350) rfl, rfl⟩
set_option maxRecDepth 100000 in
theorem uw_351 : (Jvm.Cond.methodLink "FlotationCircuit$State" (22 : Nat) ({ cls := "FlotationCircuit$State", name := "present", desc := "(I)I" } : Jvm.MethodName)) ∈ UW := List.mem_filter.mpr ⟨List.mem_of_getElem? (i := 351) rfl, rfl⟩
set_option maxRecDepth 100000 in
theorem uw_353 : (Jvm.Cond.instanceMethod ({ cls := "FlotationCircuit$State", name := "present", desc := "(I)I" } : Jvm.MethodName)) ∈ UW := List.mem_filter.mpr ⟨List.mem_of_getElem? (i := 353) rfl, rfl⟩
set_option maxRecDepth 100000 in
theorem uw_354 : (Jvm.Cond.code ({ cls := "FlotationCircuit$State", name := "present", desc := "(I)I" } : Jvm.MethodName) prog_9_method_12_code (3 : Nat) (Option.some Jvm.ClassFile.FieldType.int)) ∈ UW := List.mem_filter.mpr ⟨List.mem_of_getElem? (i := 354) rfl, rfl⟩
set_option maxRecDepth 100000 in
theorem uw_355 : (Jvm.Cond.methodLink "FlotationCircuit$Balance" (42 : Nat) ({ cls := "FlotationCircuit$State", name := "has", desc := "(I)Z" } : Jvm.MethodName)) ∈ UW := List.mem_filter.mpr ⟨List.mem_of_getElem? (i := 355) rfl, rfl⟩
set_option maxRecDepth 100000 in
theorem uw_356 : (Jvm.Cond.instanceMethod ({ cls := "FlotationCircuit$State", name := "has", desc := "(I)Z" } : Jvm.MethodName)) ∈ UW := List.mem_filter.mpr ⟨List.mem_of_getElem? (i := 356) rfl, rfl⟩
set_option maxRecDepth 100000 in
theorem uw_357 : (Jvm.Cond.selects "FlotationCircuit$State" ({ cls := "FlotationCircuit$State", name := "has", desc := "(I)Z" } : Jvm.MethodName) ({ cls := "FlotationCircuit$State", name := "has", desc := "(I)Z" } : Jvm.MethodName)) ∈ UW := List.mem_filter.mpr ⟨List.mem_of_getElem? (i := 357) rfl, rfl⟩
set_option maxRecDepth 100000 in
theorem uw_358 : (Jvm.Cond.code ({ cls := "FlotationCircuit$State", name := "has", desc := "(I)Z" } : Jvm.MethodName) prog_9_method_3_code (2 : Nat) (Option.some Jvm.ClassFile.FieldType.boolean)) ∈ UW := List.mem_filter.mpr ⟨List.mem_of_getElem? (i := 358) rfl, rfl⟩
set_option maxRecDepth 100000 in
theorem uw_359 : (Jvm.Cond.methodLink "FlotationCircuit$Balance" (66 : Nat) ({ cls := "FlotationCircuit$State", name := "carried", desc := "(III)I" } : Jvm.MethodName)) ∈ UW := List.mem_filter.mpr ⟨List.mem_of_getElem? (i := 359) rfl, rfl⟩
set_option maxRecDepth 100000 in
theorem uw_360 : (Jvm.Cond.instanceMethod ({ cls := "FlotationCircuit$State", name := "carried", desc := "(III)I" } : Jvm.MethodName)) ∈ UW := List.mem_filter.mpr ⟨List.mem_of_getElem? (i := 360) rfl, rfl⟩
set_option maxRecDepth 100000 in
theorem uw_361 : (Jvm.Cond.selects "FlotationCircuit$State" ({ cls := "FlotationCircuit$State", name := "carried", desc := "(III)I" } : Jvm.MethodName) ({ cls := "FlotationCircuit$State", name := "carried", desc := "(III)I" } : Jvm.MethodName)) ∈ UW := List.mem_filter.mpr ⟨List.mem_of_getElem? (i := 361) rfl, rfl⟩
set_option maxRecDepth 100000 in
theorem uw_362 : (Jvm.Cond.code ({ cls := "FlotationCircuit$State", name := "carried", desc := "(III)I" } : Jvm.MethodName) prog_9_method_6_code (5 : Nat) (Option.some Jvm.ClassFile.FieldType.int)) ∈ UW := List.mem_filter.mpr ⟨List.mem_of_getElem? (i := 362) rfl, rfl⟩
set_option maxRecDepth 100000 in
theorem uw_363 : (Jvm.Cond.methodLink "FlotationCircuit$State" (15 : Nat) ({ cls := "FlotationCircuit$State", name := "percent", desc := "(II)I" } : Jvm.MethodName)) ∈ UW := List.mem_filter.mpr ⟨List.mem_of_getElem? (i := 363) rfl, rfl⟩
set_option maxRecDepth 100000 in
theorem uw_364 : (Jvm.Cond.instanceMethod ({ cls := "FlotationCircuit$State", name := "percent", desc := "(II)I" } : Jvm.MethodName)) ∈ UW := List.mem_filter.mpr ⟨List.mem_of_getElem? (i := 364) rfl, rfl⟩
set_option maxRecDepth 100000 in
theorem uw_365 : (Jvm.Cond.selects "FlotationCircuit$State" ({ cls := "FlotationCircuit$State", name := "percent", desc := "(II)I" } : Jvm.MethodName) ({ cls := "FlotationCircuit$State", name := "percent", desc := "(II)I" } : Jvm.MethodName)) ∈ UW := List.mem_filter.mpr ⟨List.mem_of_getElem? (i := 365) rfl, rfl⟩
set_option maxRecDepth 100000 in
theorem uw_366 : (Jvm.Cond.code ({ cls := "FlotationCircuit$State", name := "percent", desc := "(II)I" } : Jvm.MethodName) prog_9_method_4_code (3 : Nat) (Option.some Jvm.ClassFile.FieldType.int)) ∈ UW := List.mem_filter.mpr ⟨List.mem_of_getElem? (i := 366) rfl, rfl⟩
set_option maxRecDepth 100000 in
theorem uw_367 : (Jvm.Cond.methodLink "FlotationCircuit$Balance" (35 : Nat) ({ cls := "FlotationCircuit$Balance", name := "determinant", desc := "(I)J" } : Jvm.MethodName)) ∈ UW := List.mem_filter.mpr ⟨List.mem_of_getElem? (i := 367) rfl, rfl⟩
set_option maxRecDepth 100000 in
theorem uw_369 : (Jvm.Cond.instanceMethod ({ cls := "FlotationCircuit$Balance", name := "determinant", desc := "(I)J" } : Jvm.MethodName)) ∈ UW := List.mem_filter.mpr ⟨List.mem_of_getElem? (i := 369) rfl, rfl⟩
set_option maxRecDepth 100000 in
theorem uw_370 : (Jvm.Cond.code ({ cls := "FlotationCircuit$Balance", name := "determinant", desc := "(I)J" } : Jvm.MethodName) prog_2_method_8_code (4 : Nat) (Option.some Jvm.ClassFile.FieldType.long)) ∈ UW := List.mem_filter.mpr ⟨List.mem_of_getElem? (i := 370) rfl, rfl⟩
set_option maxRecDepth 100000 in
theorem uw_371 : (Jvm.Cond.methodLink "FlotationCircuit$Balance" (73 : Nat) ({ cls := "java/lang/Math", name := "min", desc := "(II)I" } : Jvm.MethodName)) ∈ UW := List.mem_filter.mpr ⟨List.mem_of_getElem? (i := 371) rfl, rfl⟩
set_option maxRecDepth 100000 in
theorem uw_372 : (Jvm.Cond.methodLink "FlotationCircuit$Balance" (78 : Nat) ({ cls := "java/lang/Integer", name := "bitCount", desc := "(I)I" } : Jvm.MethodName)) ∈ UW := List.mem_filter.mpr ⟨List.mem_of_getElem? (i := 372) rfl, rfl⟩
set_option maxRecDepth 100000 in
theorem uw_373 : (Jvm.Cond.static ({ cls := "java/lang/Integer", name := "bitCount", desc := "(I)I" } : Jvm.MethodName)) ∈ UW := List.mem_filter.mpr ⟨List.mem_of_getElem? (i := 373) rfl, rfl⟩
set_option maxRecDepth 100000 in
theorem uw_374 : (Jvm.Cond.code ({ cls := "java/lang/Integer", name := "bitCount", desc := "(I)I" } : Jvm.MethodName) prog_17_method_49_code (1 : Nat) (Option.some Jvm.ClassFile.FieldType.int)) ∈ UW := List.mem_filter.mpr ⟨List.mem_of_getElem? (i := 374) rfl, rfl⟩
set_option maxRecDepth 100000 in
theorem uw_375 : (Jvm.Cond.constant "java/lang/Integer" (265 : Nat) (1431655765 : Int32)) ∈ UW := List.mem_filter.mpr ⟨List.mem_of_getElem? (i := 375) rfl, rfl⟩
set_option maxRecDepth 100000 in
theorem uw_376 : (Jvm.Cond.constant "java/lang/Integer" (266 : Nat) (858993459 : Int32)) ∈ UW := List.mem_filter.mpr ⟨List.mem_of_getElem? (i := 376) rfl, rfl⟩
set_option maxRecDepth 100000 in
theorem uw_377 : (Jvm.Cond.constant "java/lang/Integer" (267 : Nat) (252645135 : Int32)) ∈ UW := List.mem_filter.mpr ⟨List.mem_of_getElem? (i := 377) rfl, rfl⟩
set_option maxRecDepth 100000 in
theorem uw_378 : (Jvm.Cond.methodLink "FlotationCircuit$Balance" (84 : Nat) ({ cls := "FlotationCircuit$Balance", name := "expand", desc := "(II)J" } : Jvm.MethodName)) ∈ UW := List.mem_filter.mpr ⟨List.mem_of_getElem? (i := 378) rfl, rfl⟩
set_option maxRecDepth 100000 in
theorem uw_380 : (Jvm.Cond.instanceMethod ({ cls := "FlotationCircuit$Balance", name := "expand", desc := "(II)J" } : Jvm.MethodName)) ∈ UW := List.mem_filter.mpr ⟨List.mem_of_getElem? (i := 380) rfl, rfl⟩
set_option maxRecDepth 100000 in
theorem uw_381 : (Jvm.Cond.code ({ cls := "FlotationCircuit$Balance", name := "expand", desc := "(II)J" } : Jvm.MethodName) prog_2_method_9_code (9 : Nat) (Option.some Jvm.ClassFile.FieldType.long)) ∈ UW := List.mem_filter.mpr ⟨List.mem_of_getElem? (i := 381) rfl, rfl⟩
set_option maxRecDepth 100000 in
theorem uw_382 : (Jvm.Cond.methodLink "FlotationCircuit$Balance" (39 : Nat) ({ cls := "FlotationCircuit$State", name := "feedTarget", desc := "()I" } : Jvm.MethodName)) ∈ UW := List.mem_filter.mpr ⟨List.mem_of_getElem? (i := 382) rfl, rfl⟩
set_option maxRecDepth 100000 in
theorem uw_383 : (Jvm.Cond.instanceMethod ({ cls := "FlotationCircuit$State", name := "feedTarget", desc := "()I" } : Jvm.MethodName)) ∈ UW := List.mem_filter.mpr ⟨List.mem_of_getElem? (i := 383) rfl, rfl⟩
set_option maxRecDepth 100000 in
theorem uw_384 : (Jvm.Cond.selects "FlotationCircuit$State" ({ cls := "FlotationCircuit$State", name := "feedTarget", desc := "()I" } : Jvm.MethodName) ({ cls := "FlotationCircuit$State", name := "feedTarget", desc := "()I" } : Jvm.MethodName)) ∈ UW := List.mem_filter.mpr ⟨List.mem_of_getElem? (i := 384) rfl, rfl⟩
set_option maxRecDepth 100000 in
theorem uw_385 : (Jvm.Cond.code ({ cls := "FlotationCircuit$State", name := "feedTarget", desc := "()I" } : Jvm.MethodName) prog_9_method_11_code (1 : Nat) (Option.some Jvm.ClassFile.FieldType.int)) ∈ UW := List.mem_filter.mpr ⟨List.mem_of_getElem? (i := 385) rfl, rfl⟩
set_option maxRecDepth 100000 in
theorem uw_386 : (Jvm.Cond.methodLink "FlotationCircuit$Balance" (46 : Nat) ({ cls := "FlotationCircuit$Balance", name := "fillColumn", desc := "(LFlotationCircuit$State;III)V" } : Jvm.MethodName)) ∈ UW := List.mem_filter.mpr ⟨List.mem_of_getElem? (i := 386) rfl, rfl⟩
set_option maxRecDepth 100000 in
theorem uw_388 : (Jvm.Cond.instanceMethod ({ cls := "FlotationCircuit$Balance", name := "fillColumn", desc := "(LFlotationCircuit$State;III)V" } : Jvm.MethodName)) ∈ UW := List.mem_filter.mpr ⟨List.mem_of_getElem? (i := 388) rfl, rfl⟩
set_option maxRecDepth 100000 in
theorem uw_389 : (Jvm.Cond.code ({ cls := "FlotationCircuit$Balance", name := "fillColumn", desc := "(LFlotationCircuit$State;III)V" } : Jvm.MethodName) prog_2_method_7_code (9 : Nat) (Option.none : Option Jvm.ClassFile.FieldType)) ∈ UW := List.mem_filter.mpr ⟨List.mem_of_getElem? (i := 389) rfl, rfl⟩
set_option maxRecDepth 100000 in
theorem tw_390 : (Jvm.Cond.methodLinkNest "FlotationCircuit$Balance" (70 : Nat) ({ cls := "FlotationCircuit", name := "isProduct", desc := "(I)Z" } : Jvm.MethodName) "FlotationCircuit") ∈ lw_tbl := List.mem_of_getElem? (i := 390) rfl
set_option maxRecDepth 100000 in
theorem uw_391 : (Jvm.Cond.static ({ cls := "FlotationCircuit", name := "isProduct", desc := "(I)Z" } : Jvm.MethodName)) ∈ UW := List.mem_filter.mpr ⟨List.mem_of_getElem? (i := 391) rfl, rfl⟩
set_option maxRecDepth 100000 in
theorem uw_392 : (Jvm.Cond.code ({ cls := "FlotationCircuit", name := "isProduct", desc := "(I)Z" } : Jvm.MethodName) prog_1_method_36_code (1 : Nat) (Option.some Jvm.ClassFile.FieldType.boolean)) ∈ UW := List.mem_filter.mpr ⟨List.mem_of_getElem? (i := 392) rfl, rfl⟩
set_option maxRecDepth 100000 in
theorem uw_393 : (Jvm.Cond.methodLink "FlotationCircuit" (207 : Nat) ({ cls := "FlotationCircuit$Shares", name := "exist", desc := "()Z" } : Jvm.MethodName)) ∈ UW := List.mem_filter.mpr ⟨List.mem_of_getElem? (i := 393) rfl, rfl⟩
set_option maxRecDepth 100000 in
theorem uw_394 : (Jvm.Cond.instanceMethod ({ cls := "FlotationCircuit$Shares", name := "exist", desc := "()Z" } : Jvm.MethodName)) ∈ UW := List.mem_filter.mpr ⟨List.mem_of_getElem? (i := 394) rfl, rfl⟩
set_option maxRecDepth 100000 in
theorem uw_395 : (Jvm.Cond.selects "FlotationCircuit$Shares" ({ cls := "FlotationCircuit$Shares", name := "exist", desc := "()Z" } : Jvm.MethodName) ({ cls := "FlotationCircuit$Shares", name := "exist", desc := "()Z" } : Jvm.MethodName)) ∈ UW := List.mem_filter.mpr ⟨List.mem_of_getElem? (i := 395) rfl, rfl⟩
set_option maxRecDepth 100000 in
theorem uw_396 : (Jvm.Cond.code ({ cls := "FlotationCircuit$Shares", name := "exist", desc := "()Z" } : Jvm.MethodName) prog_7_method_4_code (1 : Nat) (Option.some Jvm.ClassFile.FieldType.boolean)) ∈ UW := List.mem_filter.mpr ⟨List.mem_of_getElem? (i := 396) rfl, rfl⟩
set_option maxRecDepth 100000 in
theorem uw_397 : (Jvm.Cond.methodLink "FlotationCircuitLaw" (194 : Nat) ({ cls := "FlotationCircuit", name := "loopCount", desc := "()I" } : Jvm.MethodName)) ∈ UW := List.mem_filter.mpr ⟨List.mem_of_getElem? (i := 397) rfl, rfl⟩
set_option maxRecDepth 100000 in
theorem uw_398 : (Jvm.Cond.instanceMethod ({ cls := "FlotationCircuit", name := "loopCount", desc := "()I" } : Jvm.MethodName)) ∈ UW := List.mem_filter.mpr ⟨List.mem_of_getElem? (i := 398) rfl, rfl⟩
set_option maxRecDepth 100000 in
theorem uw_399 : (Jvm.Cond.selects "FlotationCircuit" ({ cls := "FlotationCircuit", name := "loopCount", desc := "()I" } : Jvm.MethodName) ({ cls := "FlotationCircuit", name := "loopCount", desc := "()I" } : Jvm.MethodName)) ∈ UW := List.mem_filter.mpr ⟨List.mem_of_getElem? (i := 399) rfl, rfl⟩
set_option maxRecDepth 100000 in
theorem uw_400 : (Jvm.Cond.code ({ cls := "FlotationCircuit", name := "loopCount", desc := "()I" } : Jvm.MethodName) prog_1_method_27_code (1 : Nat) (Option.some Jvm.ClassFile.FieldType.int)) ∈ UW := List.mem_filter.mpr ⟨List.mem_of_getElem? (i := 400) rfl, rfl⟩
set_option maxRecDepth 100000 in
theorem uw_401 : (Jvm.Cond.methodLink "FlotationCircuit" (231 : Nat) ({ cls := "FlotationCircuit$Loops", name := "trace", desc := "(LFlotationCircuit$State;)V" } : Jvm.MethodName)) ∈ UW := List.mem_filter.mpr ⟨List.mem_of_getElem? (i := 401) rfl, rfl⟩
set_option maxRecDepth 100000 in
theorem uw_402 : (Jvm.Cond.instanceMethod ({ cls := "FlotationCircuit$Loops", name := "trace", desc := "(LFlotationCircuit$State;)V" } : Jvm.MethodName)) ∈ UW := List.mem_filter.mpr ⟨List.mem_of_getElem? (i := 402) rfl, rfl⟩
set_option maxRecDepth 100000 in
theorem uw_403 : (Jvm.Cond.selects "FlotationCircuit$Loops" ({ cls := "FlotationCircuit$Loops", name := "trace", desc := "(LFlotationCircuit$State;)V" } : Jvm.MethodName) ({ cls := "FlotationCircuit$Loops", name := "trace", desc := "(LFlotationCircuit$State;)V" } : Jvm.MethodName)) ∈ UW := List.mem_filter.mpr ⟨List.mem_of_getElem? (i := 403) rfl, rfl⟩
set_option maxRecDepth 100000 in
theorem uw_404 : (Jvm.Cond.code ({ cls := "FlotationCircuit$Loops", name := "trace", desc := "(LFlotationCircuit$State;)V" } : Jvm.MethodName) prog_5_method_2_code (4 : Nat) (Option.none : Option Jvm.ClassFile.FieldType)) ∈ UW := List.mem_filter.mpr ⟨List.mem_of_getElem? (i := 404) rfl, rfl⟩
set_option maxRecDepth 100000 in
theorem uw_405 : (Jvm.Cond.methodLink "FlotationCircuit$Loops" (15 : Nat) ({ cls := "java/util/Arrays", name := "fill", desc := "([II)V" } : Jvm.MethodName)) ∈ UW := List.mem_filter.mpr ⟨List.mem_of_getElem? (i := 405) rfl, rfl⟩
set_option maxRecDepth 100000 in
theorem uw_406 : (Jvm.Cond.static ({ cls := "java/util/Arrays", name := "fill", desc := "([II)V" } : Jvm.MethodName)) ∈ UW := List.mem_filter.mpr ⟨List.mem_of_getElem? (i := 406) rfl, rfl⟩
set_option maxRecDepth 100000 in
theorem uw_407 : (Jvm.Cond.code ({ cls := "java/util/Arrays", name := "fill", desc := "([II)V" } : Jvm.MethodName) prog_23_method_103_code (4 : Nat) (Option.none : Option Jvm.ClassFile.FieldType)) ∈ UW := List.mem_filter.mpr ⟨List.mem_of_getElem? (i := 407) rfl, rfl⟩
set_option maxRecDepth 100000 in
theorem uw_408 : (Jvm.Cond.methodLink "FlotationCircuit$Loops" (21 : Nat) ({ cls := "FlotationCircuit$State", name := "count", desc := "()I" } : Jvm.MethodName)) ∈ UW := List.mem_filter.mpr ⟨List.mem_of_getElem? (i := 408) rfl, rfl⟩
set_option maxRecDepth 100000 in
theorem uw_409 : (Jvm.Cond.methodLink "FlotationCircuit$Loops" (27 : Nat) ({ cls := "FlotationCircuit$State", name := "target", desc := "(II)I" } : Jvm.MethodName)) ∈ UW := List.mem_filter.mpr ⟨List.mem_of_getElem? (i := 409) rfl, rfl⟩
set_option maxRecDepth 100000 in
theorem uw_410 : (Jvm.Cond.methodLink "FlotationCircuit$Loops" (31 : Nat) ({ cls := "FlotationCircuit$Loops", name := "addLink", desc := "(LFlotationCircuit$State;II)V" } : Jvm.MethodName)) ∈ UW := List.mem_filter.mpr ⟨List.mem_of_getElem? (i := 410) rfl, rfl⟩
set_option maxRecDepth 100000 in
theorem uw_412 : (Jvm.Cond.instanceMethod ({ cls := "FlotationCircuit$Loops", name := "addLink", desc := "(LFlotationCircuit$State;II)V" } : Jvm.MethodName)) ∈ UW := List.mem_filter.mpr ⟨List.mem_of_getElem? (i := 412) rfl, rfl⟩
set_option maxRecDepth 100000 in
theorem uw_413 : (Jvm.Cond.code ({ cls := "FlotationCircuit$Loops", name := "addLink", desc := "(LFlotationCircuit$State;II)V" } : Jvm.MethodName) prog_5_method_3_code (4 : Nat) (Option.none : Option Jvm.ClassFile.FieldType)) ∈ UW := List.mem_filter.mpr ⟨List.mem_of_getElem? (i := 413) rfl, rfl⟩
set_option maxRecDepth 100000 in
theorem uw_414 : (Jvm.Cond.methodLink "FlotationCircuit$Loops" (39 : Nat) ({ cls := "FlotationCircuit$State", name := "has", desc := "(I)Z" } : Jvm.MethodName)) ∈ UW := List.mem_filter.mpr ⟨List.mem_of_getElem? (i := 414) rfl, rfl⟩
set_option maxRecDepth 100000 in
theorem uw_415 : (Jvm.Cond.methodLink "FlotationCircuit$Loops" (35 : Nat) ({ cls := "FlotationCircuit$Loops", name := "leads", desc := "(II)Z" } : Jvm.MethodName)) ∈ UW := List.mem_filter.mpr ⟨List.mem_of_getElem? (i := 415) rfl, rfl⟩
set_option maxRecDepth 100000 in
theorem uw_417 : (Jvm.Cond.instanceMethod ({ cls := "FlotationCircuit$Loops", name := "leads", desc := "(II)Z" } : Jvm.MethodName)) ∈ UW := List.mem_filter.mpr ⟨List.mem_of_getElem? (i := 417) rfl, rfl⟩
set_option maxRecDepth 100000 in
theorem uw_418 : (Jvm.Cond.code ({ cls := "FlotationCircuit$Loops", name := "leads", desc := "(II)Z" } : Jvm.MethodName) prog_5_method_4_code (3 : Nat) (Option.some Jvm.ClassFile.FieldType.boolean)) ∈ UW := List.mem_filter.mpr ⟨List.mem_of_getElem? (i := 418) rfl, rfl⟩
set_option maxRecDepth 100000 in
theorem uw_419 : (Jvm.Cond.methodLink "FlotationCircuit" (237 : Nat) ({ cls := "FlotationCircuit$Loops", name := "number", desc := "(I)I" } : Jvm.MethodName)) ∈ UW := List.mem_filter.mpr ⟨List.mem_of_getElem? (i := 419) rfl, rfl⟩
set_option maxRecDepth 100000 in
theorem uw_420 : (Jvm.Cond.instanceMethod ({ cls := "FlotationCircuit$Loops", name := "number", desc := "(I)I" } : Jvm.MethodName)) ∈ UW := List.mem_filter.mpr ⟨List.mem_of_getElem? (i := 420) rfl, rfl⟩
set_option maxRecDepth 100000 in
theorem uw_421 : (Jvm.Cond.selects "FlotationCircuit$Loops" ({ cls := "FlotationCircuit$Loops", name := "number", desc := "(I)I" } : Jvm.MethodName) ({ cls := "FlotationCircuit$Loops", name := "number", desc := "(I)I" } : Jvm.MethodName)) ∈ UW := List.mem_filter.mpr ⟨List.mem_of_getElem? (i := 421) rfl, rfl⟩
set_option maxRecDepth 100000 in
theorem uw_422 : (Jvm.Cond.code ({ cls := "FlotationCircuit$Loops", name := "number", desc := "(I)I" } : Jvm.MethodName) prog_5_method_6_code (4 : Nat) (Option.some Jvm.ClassFile.FieldType.int)) ∈ UW := List.mem_filter.mpr ⟨List.mem_of_getElem? (i := 422) rfl, rfl⟩
set_option maxRecDepth 100000 in
theorem uw_423 : (Jvm.Cond.methodLink "FlotationCircuit$Loops" (43 : Nat) ({ cls := "FlotationCircuit$Loops", name := "returnsTo", desc := "(I)Z" } : Jvm.MethodName)) ∈ UW := List.mem_filter.mpr ⟨List.mem_of_getElem? (i := 423) rfl, rfl⟩
set_option maxRecDepth 100000 in
theorem uw_424 : (Jvm.Cond.instanceMethod ({ cls := "FlotationCircuit$Loops", name := "returnsTo", desc := "(I)Z" } : Jvm.MethodName)) ∈ UW := List.mem_filter.mpr ⟨List.mem_of_getElem? (i := 424) rfl, rfl⟩
set_option maxRecDepth 100000 in
theorem uw_425 : (Jvm.Cond.selects "FlotationCircuit$Loops" ({ cls := "FlotationCircuit$Loops", name := "returnsTo", desc := "(I)Z" } : Jvm.MethodName) ({ cls := "FlotationCircuit$Loops", name := "returnsTo", desc := "(I)Z" } : Jvm.MethodName)) ∈ UW := List.mem_filter.mpr ⟨List.mem_of_getElem? (i := 425) rfl, rfl⟩
set_option maxRecDepth 100000 in
theorem uw_426 : (Jvm.Cond.code ({ cls := "FlotationCircuit$Loops", name := "returnsTo", desc := "(I)Z" } : Jvm.MethodName) prog_5_method_5_code (2 : Nat) (Option.some Jvm.ClassFile.FieldType.boolean)) ∈ UW := List.mem_filter.mpr ⟨List.mem_of_getElem? (i := 426) rfl, rfl⟩
set_option maxRecDepth 100000 in
theorem uw_427 : (Jvm.Cond.methodLink "FlotationCircuit$Loops" (46 : Nat) ({ cls := "FlotationCircuit$Loops", name := "sharesLoopWithEarlier", desc := "(I)Z" } : Jvm.MethodName)) ∈ UW := List.mem_filter.mpr ⟨List.mem_of_getElem? (i := 427) rfl, rfl⟩
set_option maxRecDepth 100000 in
theorem uw_429 : (Jvm.Cond.instanceMethod ({ cls := "FlotationCircuit$Loops", name := "sharesLoopWithEarlier", desc := "(I)Z" } : Jvm.MethodName)) ∈ UW := List.mem_filter.mpr ⟨List.mem_of_getElem? (i := 429) rfl, rfl⟩
set_option maxRecDepth 100000 in
theorem uw_430 : (Jvm.Cond.code ({ cls := "FlotationCircuit$Loops", name := "sharesLoopWithEarlier", desc := "(I)Z" } : Jvm.MethodName) prog_5_method_7_code (3 : Nat) (Option.some Jvm.ClassFile.FieldType.boolean)) ∈ UW := List.mem_filter.mpr ⟨List.mem_of_getElem? (i := 430) rfl, rfl⟩
set_option maxRecDepth 100000 in
theorem uw_431 : (Jvm.Cond.methodLink "FlotationCircuitLaw" (198 : Nat) ({ cls := "FlotationCircuit", name := "bestImprovement", desc := "()I" } : Jvm.MethodName)) ∈ UW := List.mem_filter.mpr ⟨List.mem_of_getElem? (i := 431) rfl, rfl⟩
set_option maxRecDepth 100000 in
theorem uw_432 : (Jvm.Cond.instanceMethod ({ cls := "FlotationCircuit", name := "bestImprovement", desc := "()I" } : Jvm.MethodName)) ∈ UW := List.mem_filter.mpr ⟨List.mem_of_getElem? (i := 432) rfl, rfl⟩
set_option maxRecDepth 100000 in
theorem uw_433 : (Jvm.Cond.selects "FlotationCircuit" ({ cls := "FlotationCircuit", name := "bestImprovement", desc := "()I" } : Jvm.MethodName) ({ cls := "FlotationCircuit", name := "bestImprovement", desc := "()I" } : Jvm.MethodName)) ∈ UW := List.mem_filter.mpr ⟨List.mem_of_getElem? (i := 433) rfl, rfl⟩
set_option maxRecDepth 100000 in
theorem uw_434 : (Jvm.Cond.code ({ cls := "FlotationCircuit", name := "bestImprovement", desc := "()I" } : Jvm.MethodName) prog_1_method_28_code (1 : Nat) (Option.some Jvm.ClassFile.FieldType.int)) ∈ UW := List.mem_filter.mpr ⟨List.mem_of_getElem? (i := 434) rfl, rfl⟩
set_option maxRecDepth 100000 in
theorem uw_435 : (Jvm.Cond.methodLink "FlotationCircuit" (240 : Nat) ({ cls := "FlotationCircuit", name := "bestChange", desc := "(Z)I" } : Jvm.MethodName)) ∈ UW := List.mem_filter.mpr ⟨List.mem_of_getElem? (i := 435) rfl, rfl⟩
set_option maxRecDepth 100000 in
theorem uw_437 : (Jvm.Cond.instanceMethod ({ cls := "FlotationCircuit", name := "bestChange", desc := "(Z)I" } : Jvm.MethodName)) ∈ UW := List.mem_filter.mpr ⟨List.mem_of_getElem? (i := 437) rfl, rfl⟩
set_option maxRecDepth 100000 in
theorem uw_438 : (Jvm.Cond.code ({ cls := "FlotationCircuit", name := "bestChange", desc := "(Z)I" } : Jvm.MethodName) prog_1_method_43_code (6 : Nat) (Option.some Jvm.ClassFile.FieldType.int)) ∈ UW := List.mem_filter.mpr ⟨List.mem_of_getElem? (i := 438) rfl, rfl⟩
set_option maxRecDepth 100000 in
theorem uw_439 : (Jvm.Cond.methodLink "FlotationCircuit" (304 : Nat) ({ cls := "FlotationCircuit", name := "changeTrial", desc := "(IZ)V" } : Jvm.MethodName)) ∈ UW := List.mem_filter.mpr ⟨List.mem_of_getElem? (i := 439) rfl, rfl⟩
set_option maxRecDepth 100000 in
theorem uw_441 : (Jvm.Cond.instanceMethod ({ cls := "FlotationCircuit", name := "changeTrial", desc := "(IZ)V" } : Jvm.MethodName)) ∈ UW := List.mem_filter.mpr ⟨List.mem_of_getElem? (i := 441) rfl, rfl⟩
set_option maxRecDepth 100000 in
theorem uw_442 : (Jvm.Cond.code ({ cls := "FlotationCircuit", name := "changeTrial", desc := "(IZ)V" } : Jvm.MethodName) prog_1_method_44_code (3 : Nat) (Option.none : Option Jvm.ClassFile.FieldType)) ∈ UW := List.mem_filter.mpr ⟨List.mem_of_getElem? (i := 442) rfl, rfl⟩
set_option maxRecDepth 100000 in
theorem uw_443 : (Jvm.Cond.methodLink "FlotationCircuit" (258 : Nat) ({ cls := "FlotationCircuit$State", name := "copyFrom", desc := "(LFlotationCircuit$State;)V" } : Jvm.MethodName)) ∈ UW := List.mem_filter.mpr ⟨List.mem_of_getElem? (i := 443) rfl, rfl⟩
set_option maxRecDepth 100000 in
theorem uw_444 : (Jvm.Cond.instanceMethod ({ cls := "FlotationCircuit$State", name := "copyFrom", desc := "(LFlotationCircuit$State;)V" } : Jvm.MethodName)) ∈ UW := List.mem_filter.mpr ⟨List.mem_of_getElem? (i := 444) rfl, rfl⟩
set_option maxRecDepth 100000 in
theorem uw_445 : (Jvm.Cond.selects "FlotationCircuit$State" ({ cls := "FlotationCircuit$State", name := "copyFrom", desc := "(LFlotationCircuit$State;)V" } : Jvm.MethodName) ({ cls := "FlotationCircuit$State", name := "copyFrom", desc := "(LFlotationCircuit$State;)V" } : Jvm.MethodName)) ∈ UW := List.mem_filter.mpr ⟨List.mem_of_getElem? (i := 445) rfl, rfl⟩
set_option maxRecDepth 100000 in
theorem uw_446 : (Jvm.Cond.code ({ cls := "FlotationCircuit$State", name := "copyFrom", desc := "(LFlotationCircuit$State;)V" } : Jvm.MethodName) prog_9_method_24_code (2 : Nat) (Option.none : Option Jvm.ClassFile.FieldType)) ∈ UW := List.mem_filter.mpr ⟨List.mem_of_getElem? (i := 446) rfl, rfl⟩
set_option maxRecDepth 100000 in
theorem uw_447 : (Jvm.Cond.methodLink "FlotationCircuit$State" (39 : Nat) ({ cls := "java/lang/System", name := "arraycopy", desc := "(Ljava/lang/Object;ILjava/lang/Object;II)V" } : Jvm.MethodName)) ∈ UW := List.mem_filter.mpr ⟨List.mem_of_getElem? (i := 447) rfl, rfl⟩
set_option maxRecDepth 100000 in
theorem uw_448 : (Jvm.Cond.methodLink "FlotationCircuit" (162 : Nat) ({ cls := "FlotationCircuit$State", name := "putPercent", desc := "(III)V" } : Jvm.MethodName)) ∈ UW := List.mem_filter.mpr ⟨List.mem_of_getElem? (i := 448) rfl, rfl⟩
set_option maxRecDepth 100000 in
theorem uw_449 : (Jvm.Cond.instanceMethod ({ cls := "FlotationCircuit$State", name := "putPercent", desc := "(III)V" } : Jvm.MethodName)) ∈ UW := List.mem_filter.mpr ⟨List.mem_of_getElem? (i := 449) rfl, rfl⟩
set_option maxRecDepth 100000 in
theorem uw_450 : (Jvm.Cond.selects "FlotationCircuit$State" ({ cls := "FlotationCircuit$State", name := "putPercent", desc := "(III)V" } : Jvm.MethodName) ({ cls := "FlotationCircuit$State", name := "putPercent", desc := "(III)V" } : Jvm.MethodName)) ∈ UW := List.mem_filter.mpr ⟨List.mem_of_getElem? (i := 450) rfl, rfl⟩
set_option maxRecDepth 100000 in
theorem uw_451 : (Jvm.Cond.code ({ cls := "FlotationCircuit$State", name := "putPercent", desc := "(III)V" } : Jvm.MethodName) prog_9_method_5_code (4 : Nat) (Option.none : Option Jvm.ClassFile.FieldType)) ∈ UW := List.mem_filter.mpr ⟨List.mem_of_getElem? (i := 451) rfl, rfl⟩
set_option maxRecDepth 100000 in
theorem uw_452 : (Jvm.Cond.methodLink "FlotationCircuit" (131 : Nat) ({ cls := "FlotationCircuit$State", name := "percent", desc := "(II)I" } : Jvm.MethodName)) ∈ UW := List.mem_filter.mpr ⟨List.mem_of_getElem? (i := 452) rfl, rfl⟩
set_option maxRecDepth 100000 in
theorem uw_453 : (Jvm.Cond.methodLink "FlotationCircuit" (308 : Nat) ({ cls := "java/lang/Math", name := "min", desc := "(II)I" } : Jvm.MethodName)) ∈ UW := List.mem_filter.mpr ⟨List.mem_of_getElem? (i := 453) rfl, rfl⟩
set_option maxRecDepth 100000 in
theorem uw_454 : (Jvm.Cond.methodLink "FlotationCircuit" (224 : Nat) ({ cls := "FlotationCircuit$Shares", name := "recoveryPerMille", desc := "(LFlotationCircuit$State;)I" } : Jvm.MethodName)) ∈ UW := List.mem_filter.mpr ⟨List.mem_of_getElem? (i := 454) rfl, rfl⟩
set_option maxRecDepth 100000 in
theorem uw_455 : (Jvm.Cond.instanceMethod ({ cls := "FlotationCircuit$Shares", name := "recoveryPerMille", desc := "(LFlotationCircuit$State;)I" } : Jvm.MethodName)) ∈ UW := List.mem_filter.mpr ⟨List.mem_of_getElem? (i := 455) rfl, rfl⟩
set_option maxRecDepth 100000 in
theorem uw_456 : (Jvm.Cond.selects "FlotationCircuit$Shares" ({ cls := "FlotationCircuit$Shares", name := "recoveryPerMille", desc := "(LFlotationCircuit$State;)I" } : Jvm.MethodName) ({ cls := "FlotationCircuit$Shares", name := "recoveryPerMille", desc := "(LFlotationCircuit$State;)I" } : Jvm.MethodName)) ∈ UW := List.mem_filter.mpr ⟨List.mem_of_getElem? (i := 456) rfl, rfl⟩
set_option maxRecDepth 100000 in
theorem uw_457 : (Jvm.Cond.code ({ cls := "FlotationCircuit$Shares", name := "recoveryPerMille", desc := "(LFlotationCircuit$State;)I" } : Jvm.MethodName) prog_7_method_5_code (2 : Nat) (Option.some Jvm.ClassFile.FieldType.int)) ∈ UW := List.mem_filter.mpr ⟨List.mem_of_getElem? (i := 457) rfl, rfl⟩
set_option maxRecDepth 100000 in
theorem uw_458 : (Jvm.Cond.methodLink "FlotationCircuit$Shares" (36 : Nat) ({ cls := "FlotationCircuit$State", name := "feed", desc := "(I)I" } : Jvm.MethodName)) ∈ UW := List.mem_filter.mpr ⟨List.mem_of_getElem? (i := 458) rfl, rfl⟩
set_option maxRecDepth 100000 in
theorem uw_459 : (Jvm.Cond.instanceMethod ({ cls := "FlotationCircuit$State", name := "feed", desc := "(I)I" } : Jvm.MethodName)) ∈ UW := List.mem_filter.mpr ⟨List.mem_of_getElem? (i := 459) rfl, rfl⟩
set_option maxRecDepth 100000 in
theorem uw_460 : (Jvm.Cond.selects "FlotationCircuit$State" ({ cls := "FlotationCircuit$State", name := "feed", desc := "(I)I" } : Jvm.MethodName) ({ cls := "FlotationCircuit$State", name := "feed", desc := "(I)I" } : Jvm.MethodName)) ∈ UW := List.mem_filter.mpr ⟨List.mem_of_getElem? (i := 460) rfl, rfl⟩
set_option maxRecDepth 100000 in
theorem uw_461 : (Jvm.Cond.code ({ cls := "FlotationCircuit$State", name := "feed", desc := "(I)I" } : Jvm.MethodName) prog_9_method_13_code (2 : Nat) (Option.some Jvm.ClassFile.FieldType.int)) ∈ UW := List.mem_filter.mpr ⟨List.mem_of_getElem? (i := 461) rfl, rfl⟩
set_option maxRecDepth 100000 in
theorem uw_462 : (Jvm.Cond.constantLong "FlotationCircuit$Shares" (42 : Nat) (1000 : Int64)) ∈ UW := List.mem_filter.mpr ⟨List.mem_of_getElem? (i := 462) rfl, rfl⟩
set_option maxRecDepth 100000 in
theorem uw_463 : (Jvm.Cond.methodLink "FlotationCircuitLaw" (202 : Nat) ({ cls := "FlotationCircuit", name := "bestShutdown", desc := "()I" } : Jvm.MethodName)) ∈ UW := List.mem_filter.mpr ⟨List.mem_of_getElem? (i := 463) rfl, rfl⟩
set_option maxRecDepth 100000 in
theorem uw_464 : (Jvm.Cond.instanceMethod ({ cls := "FlotationCircuit", name := "bestShutdown", desc := "()I" } : Jvm.MethodName)) ∈ UW := List.mem_filter.mpr ⟨List.mem_of_getElem? (i := 464) rfl, rfl⟩
set_option maxRecDepth 100000 in
theorem uw_465 : (Jvm.Cond.selects "FlotationCircuit" ({ cls := "FlotationCircuit", name := "bestShutdown", desc := "()I" } : Jvm.MethodName) ({ cls := "FlotationCircuit", name := "bestShutdown", desc := "()I" } : Jvm.MethodName)) ∈ UW := List.mem_filter.mpr ⟨List.mem_of_getElem? (i := 465) rfl, rfl⟩
set_option maxRecDepth 100000 in
theorem uw_466 : (Jvm.Cond.code ({ cls := "FlotationCircuit", name := "bestShutdown", desc := "()I" } : Jvm.MethodName) prog_1_method_29_code (1 : Nat) (Option.some Jvm.ClassFile.FieldType.int)) ∈ UW := List.mem_filter.mpr ⟨List.mem_of_getElem? (i := 466) rfl, rfl⟩
set_option maxRecDepth 100000 in
theorem uw_467 : (Jvm.Cond.methodLink "FlotationCircuitLaw" (102 : Nat) ({ cls := "FlotationCircuitLaw", name := "append", desc := "(LFlotationCircuit;I[J)I" } : Jvm.MethodName)) ∈ UW := List.mem_filter.mpr ⟨List.mem_of_getElem? (i := 467) rfl, rfl⟩
set_option maxRecDepth 100000 in
theorem uw_468 : (Jvm.Cond.static ({ cls := "FlotationCircuitLaw", name := "append", desc := "(LFlotationCircuit;I[J)I" } : Jvm.MethodName)) ∈ UW := List.mem_filter.mpr ⟨List.mem_of_getElem? (i := 468) rfl, rfl⟩
set_option maxRecDepth 100000 in
theorem uw_469 : (Jvm.Cond.codeWith ({ cls := "FlotationCircuitLaw", name := "append", desc := "(LFlotationCircuit;I[J)I" } : Jvm.MethodName) method_3_code (4 : Nat) (Option.some Jvm.ClassFile.FieldType.int) [((0 : Nat), (9 : Nat), (12 : Nat), (13 : Nat)), ((0 : Nat), (9 : Nat), (15 : Nat), (15 : Nat))]) ∈ UW := List.mem_filter.mpr ⟨List.mem_of_getElem? (i := 469) rfl, rfl⟩
set_option maxRecDepth 100000 in
theorem uw_470 : (Jvm.Cond.classLink "FlotationCircuitLaw" (13 : Nat) "java/lang/IllegalArgumentException") ∈ UW := List.mem_filter.mpr ⟨List.mem_of_getElem? (i := 470) rfl, rfl⟩
set_option maxRecDepth 100000 in
theorem uw_471 : (Jvm.Cond.classLink "FlotationCircuitLaw" (15 : Nat) "java/lang/IllegalStateException") ∈ UW := List.mem_filter.mpr ⟨List.mem_of_getElem? (i := 471) rfl, rfl⟩
set_option maxRecDepth 100000 in
theorem uw_472 : (Jvm.Cond.methodLink "FlotationCircuitLaw" (7 : Nat) ({ cls := "FlotationCircuit", name := "append", desc := "(I)I" } : Jvm.MethodName)) ∈ UW := List.mem_filter.mpr ⟨List.mem_of_getElem? (i := 472) rfl, rfl⟩
set_option maxRecDepth 100000 in
theorem uw_473 : (Jvm.Cond.instanceMethod ({ cls := "FlotationCircuit", name := "append", desc := "(I)I" } : Jvm.MethodName)) ∈ UW := List.mem_filter.mpr ⟨List.mem_of_getElem? (i := 473) rfl, rfl⟩
set_option maxRecDepth 100000 in
theorem uw_474 : (Jvm.Cond.selects "FlotationCircuit" ({ cls := "FlotationCircuit", name := "append", desc := "(I)I" } : Jvm.MethodName) ({ cls := "FlotationCircuit", name := "append", desc := "(I)I" } : Jvm.MethodName)) ∈ UW := List.mem_filter.mpr ⟨List.mem_of_getElem? (i := 474) rfl, rfl⟩
set_option maxRecDepth 100000 in
theorem uw_475 : (Jvm.Cond.code ({ cls := "FlotationCircuit", name := "append", desc := "(I)I" } : Jvm.MethodName) prog_1_method_2_code (2 : Nat) (Option.some Jvm.ClassFile.FieldType.int)) ∈ UW := List.mem_filter.mpr ⟨List.mem_of_getElem? (i := 475) rfl, rfl⟩
set_option maxRecDepth 100000 in
theorem uw_476 : (Jvm.Cond.methodLink "FlotationCircuit" (87 : Nat) ({ cls := "FlotationCircuit", name := "requireRange", desc := "(III)V" } : Jvm.MethodName)) ∈ UW := List.mem_filter.mpr ⟨List.mem_of_getElem? (i := 476) rfl, rfl⟩
set_option maxRecDepth 100000 in
theorem uw_477 : (Jvm.Cond.static ({ cls := "FlotationCircuit", name := "requireRange", desc := "(III)V" } : Jvm.MethodName)) ∈ UW := List.mem_filter.mpr ⟨List.mem_of_getElem? (i := 477) rfl, rfl⟩
set_option maxRecDepth 100000 in
theorem uw_478 : (Jvm.Cond.code ({ cls := "FlotationCircuit", name := "requireRange", desc := "(III)V" } : Jvm.MethodName) prog_1_method_38_code (3 : Nat) (Option.none : Option Jvm.ClassFile.FieldType)) ∈ UW := List.mem_filter.mpr ⟨List.mem_of_getElem? (i := 478) rfl, rfl⟩
set_option maxRecDepth 100000 in
theorem uw_479 : (Jvm.Cond.classLink "FlotationCircuit" (279 : Nat) "java/lang/IllegalArgumentException") ∈ UW := List.mem_filter.mpr ⟨List.mem_of_getElem? (i := 479) rfl, rfl⟩
set_option maxRecDepth 100000 in
theorem uw_480 : (Jvm.Cond.instantiable "java/lang/IllegalArgumentException" (6 : Nat)) ∈ UW := List.mem_filter.mpr ⟨List.mem_of_getElem? (i := 480) rfl, rfl⟩
set_option maxRecDepth 100000 in
theorem tw_481 : (Jvm.Cond.castable "java/lang/IllegalArgumentException" "java/lang/IllegalArgumentException") ∈ lw_tbl := List.mem_of_getElem? (i := 481) rfl
set_option maxRecDepth 100000 in
theorem tw_482 : (Jvm.Cond.declares ({ cls := "java/lang/RuntimeException", name := "<init>", desc := "()V" } : Jvm.MethodName)) ∈ lw_tbl := List.mem_of_getElem? (i := 482) rfl
set_option maxRecDepth 100000 in
theorem tw_483 : (Jvm.Cond.declares ({ cls := "java/lang/RuntimeException", name := "<init>", desc := "(Ljava/lang/String;)V" } : Jvm.MethodName)) ∈ lw_tbl := List.mem_of_getElem? (i := 483) rfl
set_option maxRecDepth 100000 in
theorem tw_484 : (Jvm.Cond.declares ({ cls := "java/lang/Exception", name := "<init>", desc := "()V" } : Jvm.MethodName)) ∈ lw_tbl := List.mem_of_getElem? (i := 484) rfl
set_option maxRecDepth 100000 in
theorem tw_485 : (Jvm.Cond.declares ({ cls := "java/lang/Exception", name := "<init>", desc := "(Ljava/lang/String;)V" } : Jvm.MethodName)) ∈ lw_tbl := List.mem_of_getElem? (i := 485) rfl
set_option maxRecDepth 100000 in
theorem tw_486 : (Jvm.Cond.declares ({ cls := "java/lang/Throwable", name := "<init>", desc := "()V" } : Jvm.MethodName)) ∈ lw_tbl := List.mem_of_getElem? (i := 486) rfl
set_option maxRecDepth 100000 in
theorem tw_487 : (Jvm.Cond.declares ({ cls := "java/lang/Throwable", name := "<init>", desc := "(Ljava/lang/String;)V" } : Jvm.MethodName)) ∈ lw_tbl := List.mem_of_getElem? (i := 487) rfl
set_option maxRecDepth 100000 in
theorem uw_488 : (Jvm.Cond.selects "java/lang/IllegalArgumentException" ({ cls := "java/lang/Throwable", name := "fillInStackTrace", desc := "(I)Ljava/lang/Throwable;" } : Jvm.MethodName) ({ cls := "java/lang/Throwable", name := "fillInStackTrace", desc := "(I)Ljava/lang/Throwable;" } : Jvm.MethodName)) ∈ UW := List.mem_filter.mpr ⟨List.mem_of_getElem? (i := 488) rfl, rfl⟩
set_option maxRecDepth 100000 in
theorem uw_489 : (Jvm.Cond.selects "java/lang/IllegalArgumentException" ({ cls := "java/lang/Throwable", name := "fillInStackTrace", desc := "()Ljava/lang/Throwable;" } : Jvm.MethodName) ({ cls := "java/lang/Throwable", name := "fillInStackTrace", desc := "()Ljava/lang/Throwable;" } : Jvm.MethodName)) ∈ UW := List.mem_filter.mpr ⟨List.mem_of_getElem? (i := 489) rfl, rfl⟩
set_option maxRecDepth 100000 in
theorem uw_490 : (Jvm.Cond.lays "java/lang/IllegalArgumentException" "java/lang/Throwable" "cause" "Ljava/lang/Throwable;") ∈ UW := List.mem_filter.mpr ⟨List.mem_of_getElem? (i := 490) rfl, rfl⟩
set_option maxRecDepth 100000 in
theorem uw_491 : (Jvm.Cond.lays "java/lang/Throwable" "java/lang/Throwable" "cause" "Ljava/lang/Throwable;") ∈ UW := List.mem_filter.mpr ⟨List.mem_of_getElem? (i := 491) rfl, rfl⟩
set_option maxRecDepth 100000 in
theorem uw_492 : (Jvm.Cond.lays "java/lang/IllegalArgumentException" "java/lang/Throwable" "stackTrace" "[Ljava/lang/StackTraceElement;") ∈ UW := List.mem_filter.mpr ⟨List.mem_of_getElem? (i := 492) rfl, rfl⟩
set_option maxRecDepth 100000 in
theorem uw_493 : (Jvm.Cond.lays "java/lang/Throwable" "java/lang/Throwable" "stackTrace" "[Ljava/lang/StackTraceElement;") ∈ UW := List.mem_filter.mpr ⟨List.mem_of_getElem? (i := 493) rfl, rfl⟩
set_option maxRecDepth 100000 in
theorem uw_494 : (Jvm.Cond.lays "java/lang/IllegalArgumentException" "java/lang/Throwable" "suppressedExceptions" "Ljava/util/List;") ∈ UW := List.mem_filter.mpr ⟨List.mem_of_getElem? (i := 494) rfl, rfl⟩
set_option maxRecDepth 100000 in
theorem uw_495 : (Jvm.Cond.lays "java/lang/Throwable" "java/lang/Throwable" "suppressedExceptions" "Ljava/util/List;") ∈ UW := List.mem_filter.mpr ⟨List.mem_of_getElem? (i := 495) rfl, rfl⟩
set_option maxRecDepth 100000 in
theorem uw_496 : (Jvm.Cond.lays "java/lang/IllegalArgumentException" "java/lang/Throwable" "detailMessage" "Ljava/lang/String;") ∈ UW := List.mem_filter.mpr ⟨List.mem_of_getElem? (i := 496) rfl, rfl⟩
set_option maxRecDepth 100000 in
theorem uw_497 : (Jvm.Cond.lays "java/lang/Throwable" "java/lang/Throwable" "detailMessage" "Ljava/lang/String;") ∈ UW := List.mem_filter.mpr ⟨List.mem_of_getElem? (i := 497) rfl, rfl⟩
set_option maxRecDepth 100000 in
theorem uw_498 : (Jvm.Cond.lays "java/lang/IllegalArgumentException" "java/lang/Throwable" "backtrace" "Ljava/lang/Object;") ∈ UW := List.mem_filter.mpr ⟨List.mem_of_getElem? (i := 498) rfl, rfl⟩
set_option maxRecDepth 100000 in
theorem uw_499 : (Jvm.Cond.lays "java/lang/Throwable" "java/lang/Throwable" "backtrace" "Ljava/lang/Object;") ∈ UW := List.mem_filter.mpr ⟨List.mem_of_getElem? (i := 499) rfl, rfl⟩
set_option maxRecDepth 100000 in
theorem uw_500 : (Jvm.Cond.fieldLink "java/lang/Throwable" (198 : Nat) "java/lang/Throwable" "backtrace" "Ljava/lang/Object;") ∈ UW := List.mem_filter.mpr ⟨List.mem_of_getElem? (i := 500) rfl, rfl⟩
set_option maxRecDepth 100000 in
theorem uw_501 : (Jvm.Cond.superclass "java/lang/Throwable" "java/lang/Object") ∈ UW := List.mem_filter.mpr ⟨List.mem_of_getElem? (i := 501) rfl, rfl⟩
set_option maxRecDepth 100000 in
theorem uw_502 : (Jvm.Cond.instanceMethod ({ cls := "java/lang/Throwable", name := "<init>", desc := "()V" } : Jvm.MethodName)) ∈ UW := List.mem_filter.mpr ⟨List.mem_of_getElem? (i := 502) rfl, rfl⟩
set_option maxRecDepth 100000 in
theorem uw_503 : (Jvm.Cond.code ({ cls := "java/lang/Throwable", name := "<init>", desc := "()V" } : Jvm.MethodName) prog_22_method_1_code (1 : Nat) (Option.none : Option Jvm.ClassFile.FieldType)) ∈ UW := List.mem_filter.mpr ⟨List.mem_of_getElem? (i := 503) rfl, rfl⟩
set_option maxRecDepth 100000 in
theorem uw_504 : (Jvm.Cond.methodLink "java/lang/Throwable" (1 : Nat) ({ cls := "java/lang/Object", name := "<init>", desc := "()V" } : Jvm.MethodName)) ∈ UW := List.mem_filter.mpr ⟨List.mem_of_getElem? (i := 504) rfl, rfl⟩
set_option maxRecDepth 100000 in
theorem uw_505 : (Jvm.Cond.fieldLink "java/lang/Throwable" (13 : Nat) "java/lang/Throwable" "UNASSIGNED_STACK" "[Ljava/lang/StackTraceElement;") ∈ UW := List.mem_filter.mpr ⟨List.mem_of_getElem? (i := 505) rfl, rfl⟩
set_option maxRecDepth 100000 in
theorem uw_507 : (Jvm.Cond.fieldLink "java/lang/Throwable" (20 : Nat) "java/lang/Throwable" "SUPPRESSED_SENTINEL" "Ljava/util/List;") ∈ UW := List.mem_filter.mpr ⟨List.mem_of_getElem? (i := 507) rfl, rfl⟩
set_option maxRecDepth 100000 in
theorem uw_509 : (Jvm.Cond.methodLink "java/lang/Throwable" (27 : Nat) ({ cls := "java/lang/Throwable", name := "fillInStackTrace", desc := "()Ljava/lang/Throwable;" } : Jvm.MethodName)) ∈ UW := List.mem_filter.mpr ⟨List.mem_of_getElem? (i := 509) rfl, rfl⟩
set_option maxRecDepth 100000 in
theorem uw_510 : (Jvm.Cond.instanceMethod ({ cls := "java/lang/Throwable", name := "fillInStackTrace", desc := "()Ljava/lang/Throwable;" } : Jvm.MethodName)) ∈ UW := List.mem_filter.mpr ⟨List.mem_of_getElem? (i := 510) rfl, rfl⟩
set_option maxRecDepth 100000 in
theorem uw_511 : (Jvm.Cond.sameMethod "java/lang/Throwable" "java/lang/Throwable" "fillInStackTrace" "()Ljava/lang/Throwable;") ∈ UW := List.mem_filter.mpr ⟨List.mem_of_getElem? (i := 511) rfl, rfl⟩
set_option maxRecDepth 100000 in
theorem uw_512 : (Jvm.Cond.selects "java/lang/IllegalStateException" ({ cls := "java/lang/Throwable", name := "fillInStackTrace", desc := "()Ljava/lang/Throwable;" } : Jvm.MethodName) ({ cls := "java/lang/Throwable", name := "fillInStackTrace", desc := "()Ljava/lang/Throwable;" } : Jvm.MethodName)) ∈ UW := List.mem_filter.mpr ⟨List.mem_of_getElem? (i := 512) rfl, rfl⟩
set_option maxRecDepth 100000 in
theorem uw_513 : (Jvm.Cond.selects "java/lang/IndexOutOfBoundsException" ({ cls := "java/lang/Throwable", name := "fillInStackTrace", desc := "()Ljava/lang/Throwable;" } : Jvm.MethodName) ({ cls := "java/lang/Throwable", name := "fillInStackTrace", desc := "()Ljava/lang/Throwable;" } : Jvm.MethodName)) ∈ UW := List.mem_filter.mpr ⟨List.mem_of_getElem? (i := 513) rfl, rfl⟩
set_option maxRecDepth 100000 in
theorem uw_514 : (Jvm.Cond.codeSync ({ cls := "java/lang/Throwable", name := "fillInStackTrace", desc := "()Ljava/lang/Throwable;" } : Jvm.MethodName) prog_22_method_18_code (1 : Nat) (Option.some (Jvm.ClassFile.FieldType.object "java/lang/Throwable"))) ∈ UW := List.mem_filter.mpr ⟨List.mem_of_getElem? (i := 514) rfl, rfl⟩
set_option maxRecDepth 100000 in
theorem uw_515 : (Jvm.Cond.methodLink "java/lang/Throwable" (202 : Nat) ({ cls := "java/lang/Throwable", name := "fillInStackTrace", desc := "(I)Ljava/lang/Throwable;" } : Jvm.MethodName)) ∈ UW := List.mem_filter.mpr ⟨List.mem_of_getElem? (i := 515) rfl, rfl⟩
set_option maxRecDepth 100000 in
theorem uw_517 : (Jvm.Cond.instanceMethod ({ cls := "java/lang/Throwable", name := "fillInStackTrace", desc := "(I)Ljava/lang/Throwable;" } : Jvm.MethodName)) ∈ UW := List.mem_filter.mpr ⟨List.mem_of_getElem? (i := 517) rfl, rfl⟩
set_option maxRecDepth 100000 in
theorem uw_518 : (Jvm.Cond.instantiable "java/lang/Throwable" (6 : Nat)) ∈ UW := List.mem_filter.mpr ⟨List.mem_of_getElem? (i := 518) rfl, rfl⟩
set_option maxRecDepth 100000 in
theorem uw_519 : (Jvm.Cond.native ({ cls := "java/lang/Throwable", name := "fillInStackTrace", desc := "(I)Ljava/lang/Throwable;" } : Jvm.MethodName)) ∈ UW := List.mem_filter.mpr ⟨List.mem_of_getElem? (i := 519) rfl, rfl⟩
set_option maxRecDepth 100000 in
theorem tw_520 : (Jvm.Cond.stringRef "FlotationCircuit" (281 : Nat) "out of range") ∈ lw_tbl := List.mem_of_getElem? (i := 520) rfl
set_option maxRecDepth 100000 in
theorem uw_521 : (Jvm.Cond.methodLink "FlotationCircuit" (283 : Nat) ({ cls := "java/lang/IllegalArgumentException", name := "<init>", desc := "(Ljava/lang/String;)V" } : Jvm.MethodName)) ∈ UW := List.mem_filter.mpr ⟨List.mem_of_getElem? (i := 521) rfl, rfl⟩
set_option maxRecDepth 100000 in
theorem uw_522 : (Jvm.Cond.instanceMethod ({ cls := "java/lang/IllegalArgumentException", name := "<init>", desc := "(Ljava/lang/String;)V" } : Jvm.MethodName)) ∈ UW := List.mem_filter.mpr ⟨List.mem_of_getElem? (i := 522) rfl, rfl⟩
set_option maxRecDepth 100000 in
theorem uw_523 : (Jvm.Cond.code ({ cls := "java/lang/IllegalArgumentException", name := "<init>", desc := "(Ljava/lang/String;)V" } : Jvm.MethodName) prog_14_method_2_code (2 : Nat) (Option.none : Option Jvm.ClassFile.FieldType)) ∈ UW := List.mem_filter.mpr ⟨List.mem_of_getElem? (i := 523) rfl, rfl⟩
set_option maxRecDepth 100000 in
theorem uw_524 : (Jvm.Cond.methodLink "java/lang/IllegalArgumentException" (7 : Nat) ({ cls := "java/lang/RuntimeException", name := "<init>", desc := "(Ljava/lang/String;)V" } : Jvm.MethodName)) ∈ UW := List.mem_filter.mpr ⟨List.mem_of_getElem? (i := 524) rfl, rfl⟩
set_option maxRecDepth 100000 in
theorem uw_525 : (Jvm.Cond.instanceMethod ({ cls := "java/lang/RuntimeException", name := "<init>", desc := "(Ljava/lang/String;)V" } : Jvm.MethodName)) ∈ UW := List.mem_filter.mpr ⟨List.mem_of_getElem? (i := 525) rfl, rfl⟩
set_option maxRecDepth 100000 in
theorem uw_526 : (Jvm.Cond.code ({ cls := "java/lang/RuntimeException", name := "<init>", desc := "(Ljava/lang/String;)V" } : Jvm.MethodName) prog_19_method_2_code (2 : Nat) (Option.none : Option Jvm.ClassFile.FieldType)) ∈ UW := List.mem_filter.mpr ⟨List.mem_of_getElem? (i := 526) rfl, rfl⟩
set_option maxRecDepth 100000 in
theorem uw_527 : (Jvm.Cond.methodLink "java/lang/RuntimeException" (7 : Nat) ({ cls := "java/lang/Exception", name := "<init>", desc := "(Ljava/lang/String;)V" } : Jvm.MethodName)) ∈ UW := List.mem_filter.mpr ⟨List.mem_of_getElem? (i := 527) rfl, rfl⟩
set_option maxRecDepth 100000 in
theorem uw_528 : (Jvm.Cond.instanceMethod ({ cls := "java/lang/Exception", name := "<init>", desc := "(Ljava/lang/String;)V" } : Jvm.MethodName)) ∈ UW := List.mem_filter.mpr ⟨List.mem_of_getElem? (i := 528) rfl, rfl⟩
set_option maxRecDepth 100000 in
theorem uw_529 : (Jvm.Cond.code ({ cls := "java/lang/Exception", name := "<init>", desc := "(Ljava/lang/String;)V" } : Jvm.MethodName) prog_13_method_2_code (2 : Nat) (Option.none : Option Jvm.ClassFile.FieldType)) ∈ UW := List.mem_filter.mpr ⟨List.mem_of_getElem? (i := 529) rfl, rfl⟩
set_option maxRecDepth 100000 in
theorem uw_530 : (Jvm.Cond.methodLink "java/lang/Exception" (7 : Nat) ({ cls := "java/lang/Throwable", name := "<init>", desc := "(Ljava/lang/String;)V" } : Jvm.MethodName)) ∈ UW := List.mem_filter.mpr ⟨List.mem_of_getElem? (i := 530) rfl, rfl⟩
set_option maxRecDepth 100000 in
theorem uw_531 : (Jvm.Cond.instanceMethod ({ cls := "java/lang/Throwable", name := "<init>", desc := "(Ljava/lang/String;)V" } : Jvm.MethodName)) ∈ UW := List.mem_filter.mpr ⟨List.mem_of_getElem? (i := 531) rfl, rfl⟩
set_option maxRecDepth 100000 in
theorem uw_532 : (Jvm.Cond.code ({ cls := "java/lang/Throwable", name := "<init>", desc := "(Ljava/lang/String;)V" } : Jvm.MethodName) prog_22_method_2_code (2 : Nat) (Option.none : Option Jvm.ClassFile.FieldType)) ∈ UW := List.mem_filter.mpr ⟨List.mem_of_getElem? (i := 532) rfl, rfl⟩
set_option maxRecDepth 100000 in
theorem uw_533 : (Jvm.Cond.fieldLink "java/lang/Throwable" (198 : Nat) "java/lang/Throwable" "backtrace" "Ljava/lang/Object;") ∈ UW := List.mem_filter.mpr ⟨List.mem_of_getElem? (i := 533) rfl, rfl⟩
set_option maxRecDepth 100000 in
theorem uw_534 : (Jvm.Cond.fieldLink "java/lang/Throwable" (31 : Nat) "java/lang/Throwable" "detailMessage" "Ljava/lang/String;") ∈ UW := List.mem_filter.mpr ⟨List.mem_of_getElem? (i := 534) rfl, rfl⟩
set_option maxRecDepth 100000 in
theorem uw_535 : (Jvm.Cond.fieldLink "java/lang/Throwable" (7 : Nat) "java/lang/Throwable" "cause" "Ljava/lang/Throwable;") ∈ UW := List.mem_filter.mpr ⟨List.mem_of_getElem? (i := 535) rfl, rfl⟩
set_option maxRecDepth 100000 in
theorem uw_536 : (Jvm.Cond.fieldLink "java/lang/Throwable" (17 : Nat) "java/lang/Throwable" "stackTrace" "[Ljava/lang/StackTraceElement;") ∈ UW := List.mem_filter.mpr ⟨List.mem_of_getElem? (i := 536) rfl, rfl⟩
set_option maxRecDepth 100000 in
theorem uw_537 : (Jvm.Cond.fieldLink "java/lang/Throwable" (24 : Nat) "java/lang/Throwable" "suppressedExceptions" "Ljava/util/List;") ∈ UW := List.mem_filter.mpr ⟨List.mem_of_getElem? (i := 537) rfl, rfl⟩
set_option maxRecDepth 100000 in
theorem uw_542 : (Jvm.Cond.lays "java/lang/IllegalArgumentException" "java/lang/Throwable" "depth" "I") ∈ UW := List.mem_filter.mpr ⟨List.mem_of_getElem? (i := 542) rfl, rfl⟩
set_option maxRecDepth 100000 in
theorem uw_545 : (Jvm.Cond.superclass "java/lang/IllegalArgumentException" "java/lang/RuntimeException") ∈ UW := List.mem_filter.mpr ⟨List.mem_of_getElem? (i := 545) rfl, rfl⟩
set_option maxRecDepth 100000 in
theorem uw_546 : (Jvm.Cond.arrayClass Jvm.ClassFile.FieldType.byte) ∈ UW := List.mem_filter.mpr ⟨List.mem_of_getElem? (i := 546) rfl, rfl⟩
set_option maxRecDepth 100000 in
theorem uw_547 : (Jvm.Cond.methodLink "FlotationCircuit" (91 : Nat) ({ cls := "FlotationCircuit$CircuitText", name := "isFull", desc := "()Z" } : Jvm.MethodName)) ∈ UW := List.mem_filter.mpr ⟨List.mem_of_getElem? (i := 547) rfl, rfl⟩
set_option maxRecDepth 100000 in
theorem uw_548 : (Jvm.Cond.instanceMethod ({ cls := "FlotationCircuit$CircuitText", name := "isFull", desc := "()Z" } : Jvm.MethodName)) ∈ UW := List.mem_filter.mpr ⟨List.mem_of_getElem? (i := 548) rfl, rfl⟩
set_option maxRecDepth 100000 in
theorem uw_549 : (Jvm.Cond.selects "FlotationCircuit$CircuitText" ({ cls := "FlotationCircuit$CircuitText", name := "isFull", desc := "()Z" } : Jvm.MethodName) ({ cls := "FlotationCircuit$CircuitText", name := "isFull", desc := "()Z" } : Jvm.MethodName)) ∈ UW := List.mem_filter.mpr ⟨List.mem_of_getElem? (i := 549) rfl, rfl⟩
set_option maxRecDepth 100000 in
theorem uw_550 : (Jvm.Cond.code ({ cls := "FlotationCircuit$CircuitText", name := "isFull", desc := "()Z" } : Jvm.MethodName) prog_3_method_2_code (1 : Nat) (Option.some Jvm.ClassFile.FieldType.boolean)) ∈ UW := List.mem_filter.mpr ⟨List.mem_of_getElem? (i := 550) rfl, rfl⟩
set_option maxRecDepth 100000 in
theorem uw_551 : (Jvm.Cond.classLink "FlotationCircuit" (95 : Nat) "java/lang/IllegalStateException") ∈ UW := List.mem_filter.mpr ⟨List.mem_of_getElem? (i := 551) rfl, rfl⟩
set_option maxRecDepth 100000 in
theorem uw_552 : (Jvm.Cond.instantiable "java/lang/IllegalStateException" (6 : Nat)) ∈ UW := List.mem_filter.mpr ⟨List.mem_of_getElem? (i := 552) rfl, rfl⟩
set_option maxRecDepth 100000 in
theorem tw_553 : (Jvm.Cond.castable "java/lang/IllegalStateException" "java/lang/IllegalStateException") ∈ lw_tbl := List.mem_of_getElem? (i := 553) rfl
set_option maxRecDepth 100000 in
theorem uw_554 : (Jvm.Cond.selects "java/lang/IllegalStateException" ({ cls := "java/lang/Throwable", name := "fillInStackTrace", desc := "(I)Ljava/lang/Throwable;" } : Jvm.MethodName) ({ cls := "java/lang/Throwable", name := "fillInStackTrace", desc := "(I)Ljava/lang/Throwable;" } : Jvm.MethodName)) ∈ UW := List.mem_filter.mpr ⟨List.mem_of_getElem? (i := 554) rfl, rfl⟩
set_option maxRecDepth 100000 in
theorem uw_555 : (Jvm.Cond.lays "java/lang/IllegalStateException" "java/lang/Throwable" "cause" "Ljava/lang/Throwable;") ∈ UW := List.mem_filter.mpr ⟨List.mem_of_getElem? (i := 555) rfl, rfl⟩
set_option maxRecDepth 100000 in
theorem uw_556 : (Jvm.Cond.lays "java/lang/IllegalStateException" "java/lang/Throwable" "stackTrace" "[Ljava/lang/StackTraceElement;") ∈ UW := List.mem_filter.mpr ⟨List.mem_of_getElem? (i := 556) rfl, rfl⟩
set_option maxRecDepth 100000 in
theorem uw_557 : (Jvm.Cond.lays "java/lang/IllegalStateException" "java/lang/Throwable" "suppressedExceptions" "Ljava/util/List;") ∈ UW := List.mem_filter.mpr ⟨List.mem_of_getElem? (i := 557) rfl, rfl⟩
set_option maxRecDepth 100000 in
theorem uw_558 : (Jvm.Cond.lays "java/lang/IllegalStateException" "java/lang/Throwable" "detailMessage" "Ljava/lang/String;") ∈ UW := List.mem_filter.mpr ⟨List.mem_of_getElem? (i := 558) rfl, rfl⟩
set_option maxRecDepth 100000 in
theorem uw_559 : (Jvm.Cond.lays "java/lang/IllegalStateException" "java/lang/Throwable" "backtrace" "Ljava/lang/Object;") ∈ UW := List.mem_filter.mpr ⟨List.mem_of_getElem? (i := 559) rfl, rfl⟩
set_option maxRecDepth 100000 in
theorem tw_560 : (Jvm.Cond.stringRef "FlotationCircuit" (97 : Nat) "the text is full") ∈ lw_tbl := List.mem_of_getElem? (i := 560) rfl
set_option maxRecDepth 100000 in
theorem uw_561 : (Jvm.Cond.methodLink "FlotationCircuit" (99 : Nat) ({ cls := "java/lang/IllegalStateException", name := "<init>", desc := "(Ljava/lang/String;)V" } : Jvm.MethodName)) ∈ UW := List.mem_filter.mpr ⟨List.mem_of_getElem? (i := 561) rfl, rfl⟩
set_option maxRecDepth 100000 in
theorem uw_562 : (Jvm.Cond.instanceMethod ({ cls := "java/lang/IllegalStateException", name := "<init>", desc := "(Ljava/lang/String;)V" } : Jvm.MethodName)) ∈ UW := List.mem_filter.mpr ⟨List.mem_of_getElem? (i := 562) rfl, rfl⟩
set_option maxRecDepth 100000 in
theorem uw_563 : (Jvm.Cond.code ({ cls := "java/lang/IllegalStateException", name := "<init>", desc := "(Ljava/lang/String;)V" } : Jvm.MethodName) prog_15_method_2_code (2 : Nat) (Option.none : Option Jvm.ClassFile.FieldType)) ∈ UW := List.mem_filter.mpr ⟨List.mem_of_getElem? (i := 563) rfl, rfl⟩
set_option maxRecDepth 100000 in
theorem uw_564 : (Jvm.Cond.methodLink "java/lang/IllegalStateException" (7 : Nat) ({ cls := "java/lang/RuntimeException", name := "<init>", desc := "(Ljava/lang/String;)V" } : Jvm.MethodName)) ∈ UW := List.mem_filter.mpr ⟨List.mem_of_getElem? (i := 564) rfl, rfl⟩
set_option maxRecDepth 100000 in
theorem uw_565 : (Jvm.Cond.lays "java/lang/IllegalStateException" "java/lang/Throwable" "depth" "I") ∈ UW := List.mem_filter.mpr ⟨List.mem_of_getElem? (i := 565) rfl, rfl⟩
set_option maxRecDepth 100000 in
theorem uw_566 : (Jvm.Cond.superclass "java/lang/IllegalStateException" "java/lang/RuntimeException") ∈ UW := List.mem_filter.mpr ⟨List.mem_of_getElem? (i := 566) rfl, rfl⟩
set_option maxRecDepth 100000 in
theorem uw_567 : (Jvm.Cond.methodLink "FlotationCircuit" (102 : Nat) ({ cls := "FlotationCircuit$CircuitText", name := "add", desc := "(C)I" } : Jvm.MethodName)) ∈ UW := List.mem_filter.mpr ⟨List.mem_of_getElem? (i := 567) rfl, rfl⟩
set_option maxRecDepth 100000 in
theorem uw_568 : (Jvm.Cond.instanceMethod ({ cls := "FlotationCircuit$CircuitText", name := "add", desc := "(C)I" } : Jvm.MethodName)) ∈ UW := List.mem_filter.mpr ⟨List.mem_of_getElem? (i := 568) rfl, rfl⟩
set_option maxRecDepth 100000 in
theorem uw_569 : (Jvm.Cond.selects "FlotationCircuit$CircuitText" ({ cls := "FlotationCircuit$CircuitText", name := "add", desc := "(C)I" } : Jvm.MethodName) ({ cls := "FlotationCircuit$CircuitText", name := "add", desc := "(C)I" } : Jvm.MethodName)) ∈ UW := List.mem_filter.mpr ⟨List.mem_of_getElem? (i := 569) rfl, rfl⟩
set_option maxRecDepth 100000 in
theorem uw_570 : (Jvm.Cond.code ({ cls := "FlotationCircuit$CircuitText", name := "add", desc := "(C)I" } : Jvm.MethodName) prog_3_method_3_code (2 : Nat) (Option.some Jvm.ClassFile.FieldType.int)) ∈ UW := List.mem_filter.mpr ⟨List.mem_of_getElem? (i := 570) rfl, rfl⟩
set_option maxRecDepth 100000 in
theorem uw_571 : (Jvm.Cond.methodLink "FlotationCircuitLaw" (119 : Nat) ({ cls := "FlotationCircuitLaw", name := "load", desc := "(LFlotationCircuit;[J)I" } : Jvm.MethodName)) ∈ UW := List.mem_filter.mpr ⟨List.mem_of_getElem? (i := 571) rfl, rfl⟩
set_option maxRecDepth 100000 in
theorem uw_572 : (Jvm.Cond.static ({ cls := "FlotationCircuitLaw", name := "load", desc := "(LFlotationCircuit;[J)I" } : Jvm.MethodName)) ∈ UW := List.mem_filter.mpr ⟨List.mem_of_getElem? (i := 572) rfl, rfl⟩
set_option maxRecDepth 100000 in
theorem uw_573 : (Jvm.Cond.codeWith ({ cls := "FlotationCircuitLaw", name := "load", desc := "(LFlotationCircuit;[J)I" } : Jvm.MethodName) method_4_code (3 : Nat) (Option.some Jvm.ClassFile.FieldType.int) [((0 : Nat), (8 : Nat), (11 : Nat), (15 : Nat))]) ∈ UW := List.mem_filter.mpr ⟨List.mem_of_getElem? (i := 573) rfl, rfl⟩
set_option maxRecDepth 100000 in
theorem uw_574 : (Jvm.Cond.methodLink "FlotationCircuitLaw" (17 : Nat) ({ cls := "FlotationCircuit", name := "load", desc := "()I" } : Jvm.MethodName)) ∈ UW := List.mem_filter.mpr ⟨List.mem_of_getElem? (i := 574) rfl, rfl⟩
set_option maxRecDepth 100000 in
theorem uw_575 : (Jvm.Cond.instanceMethod ({ cls := "FlotationCircuit", name := "load", desc := "()I" } : Jvm.MethodName)) ∈ UW := List.mem_filter.mpr ⟨List.mem_of_getElem? (i := 575) rfl, rfl⟩
set_option maxRecDepth 100000 in
theorem uw_576 : (Jvm.Cond.selects "FlotationCircuit" ({ cls := "FlotationCircuit", name := "load", desc := "()I" } : Jvm.MethodName) ({ cls := "FlotationCircuit", name := "load", desc := "()I" } : Jvm.MethodName)) ∈ UW := List.mem_filter.mpr ⟨List.mem_of_getElem? (i := 576) rfl, rfl⟩
set_option maxRecDepth 100000 in
theorem uw_577 : (Jvm.Cond.code ({ cls := "FlotationCircuit", name := "load", desc := "()I" } : Jvm.MethodName) prog_1_method_5_code (2 : Nat) (Option.some Jvm.ClassFile.FieldType.int)) ∈ UW := List.mem_filter.mpr ⟨List.mem_of_getElem? (i := 577) rfl, rfl⟩
set_option maxRecDepth 100000 in
theorem tw_578 : (Jvm.Cond.stringRef "FlotationCircuit" (113 : Nat) "the text is no complete circuit text") ∈ lw_tbl := List.mem_of_getElem? (i := 578) rfl
set_option maxRecDepth 100000 in
theorem uw_579 : (Jvm.Cond.methodLink "FlotationCircuit" (115 : Nat) ({ cls := "FlotationCircuit$CircuitText", name := "readInto", desc := "(LFlotationCircuit$State;)V" } : Jvm.MethodName)) ∈ UW := List.mem_filter.mpr ⟨List.mem_of_getElem? (i := 579) rfl, rfl⟩
set_option maxRecDepth 100000 in
theorem uw_580 : (Jvm.Cond.instanceMethod ({ cls := "FlotationCircuit$CircuitText", name := "readInto", desc := "(LFlotationCircuit$State;)V" } : Jvm.MethodName)) ∈ UW := List.mem_filter.mpr ⟨List.mem_of_getElem? (i := 580) rfl, rfl⟩
set_option maxRecDepth 100000 in
theorem uw_581 : (Jvm.Cond.selects "FlotationCircuit$CircuitText" ({ cls := "FlotationCircuit$CircuitText", name := "readInto", desc := "(LFlotationCircuit$State;)V" } : Jvm.MethodName) ({ cls := "FlotationCircuit$CircuitText", name := "readInto", desc := "(LFlotationCircuit$State;)V" } : Jvm.MethodName)) ∈ UW := List.mem_filter.mpr ⟨List.mem_of_getElem? (i := 581) rfl, rfl⟩
set_option maxRecDepth 100000 in
theorem uw_582 : (Jvm.Cond.code ({ cls := "FlotationCircuit$CircuitText", name := "readInto", desc := "(LFlotationCircuit$State;)V" } : Jvm.MethodName) prog_3_method_10_code (3 : Nat) (Option.none : Option Jvm.ClassFile.FieldType)) ∈ UW := List.mem_filter.mpr ⟨List.mem_of_getElem? (i := 582) rfl, rfl⟩
set_option maxRecDepth 100000 in
theorem uw_583 : (Jvm.Cond.methodLink "FlotationCircuit$CircuitText" (33 : Nat) ({ cls := "FlotationCircuit$State", name := "dropCells", desc := "()V" } : Jvm.MethodName)) ∈ UW := List.mem_filter.mpr ⟨List.mem_of_getElem? (i := 583) rfl, rfl⟩
set_option maxRecDepth 100000 in
theorem uw_584 : (Jvm.Cond.instanceMethod ({ cls := "FlotationCircuit$State", name := "dropCells", desc := "()V" } : Jvm.MethodName)) ∈ UW := List.mem_filter.mpr ⟨List.mem_of_getElem? (i := 584) rfl, rfl⟩
set_option maxRecDepth 100000 in
theorem uw_585 : (Jvm.Cond.selects "FlotationCircuit$State" ({ cls := "FlotationCircuit$State", name := "dropCells", desc := "()V" } : Jvm.MethodName) ({ cls := "FlotationCircuit$State", name := "dropCells", desc := "()V" } : Jvm.MethodName)) ∈ UW := List.mem_filter.mpr ⟨List.mem_of_getElem? (i := 585) rfl, rfl⟩
set_option maxRecDepth 100000 in
theorem uw_586 : (Jvm.Cond.code ({ cls := "FlotationCircuit$State", name := "dropCells", desc := "()V" } : Jvm.MethodName) prog_9_method_21_code (1 : Nat) (Option.none : Option Jvm.ClassFile.FieldType)) ∈ UW := List.mem_filter.mpr ⟨List.mem_of_getElem? (i := 586) rfl, rfl⟩
set_option maxRecDepth 100000 in
theorem uw_587 : (Jvm.Cond.methodLink "FlotationCircuit$CircuitText" (38 : Nat) ({ cls := "FlotationCircuit$State", name := "emptyAll", desc := "()V" } : Jvm.MethodName)) ∈ UW := List.mem_filter.mpr ⟨List.mem_of_getElem? (i := 587) rfl, rfl⟩
set_option maxRecDepth 100000 in
theorem uw_588 : (Jvm.Cond.methodLink "FlotationCircuit$CircuitText" (41 : Nat) ({ cls := "FlotationCircuit$CircuitText", name := "number", desc := "(II)I" } : Jvm.MethodName)) ∈ UW := List.mem_filter.mpr ⟨List.mem_of_getElem? (i := 588) rfl, rfl⟩
set_option maxRecDepth 100000 in
theorem uw_590 : (Jvm.Cond.instanceMethod ({ cls := "FlotationCircuit$CircuitText", name := "number", desc := "(II)I" } : Jvm.MethodName)) ∈ UW := List.mem_filter.mpr ⟨List.mem_of_getElem? (i := 590) rfl, rfl⟩
set_option maxRecDepth 100000 in
theorem uw_591 : (Jvm.Cond.code ({ cls := "FlotationCircuit$CircuitText", name := "number", desc := "(II)I" } : Jvm.MethodName) prog_3_method_11_code (5 : Nat) (Option.some Jvm.ClassFile.FieldType.int)) ∈ UW := List.mem_filter.mpr ⟨List.mem_of_getElem? (i := 591) rfl, rfl⟩
set_option maxRecDepth 100000 in
theorem uw_592 : (Jvm.Cond.methodLink "FlotationCircuit$CircuitText" (45 : Nat) ({ cls := "FlotationCircuit$State", name := "putFeed", desc := "(III)V" } : Jvm.MethodName)) ∈ UW := List.mem_filter.mpr ⟨List.mem_of_getElem? (i := 592) rfl, rfl⟩
set_option maxRecDepth 100000 in
theorem uw_593 : (Jvm.Cond.instanceMethod ({ cls := "FlotationCircuit$State", name := "putFeed", desc := "(III)V" } : Jvm.MethodName)) ∈ UW := List.mem_filter.mpr ⟨List.mem_of_getElem? (i := 593) rfl, rfl⟩
set_option maxRecDepth 100000 in
theorem uw_594 : (Jvm.Cond.selects "FlotationCircuit$State" ({ cls := "FlotationCircuit$State", name := "putFeed", desc := "(III)V" } : Jvm.MethodName) ({ cls := "FlotationCircuit$State", name := "putFeed", desc := "(III)V" } : Jvm.MethodName)) ∈ UW := List.mem_filter.mpr ⟨List.mem_of_getElem? (i := 594) rfl, rfl⟩
set_option maxRecDepth 100000 in
theorem uw_595 : (Jvm.Cond.code ({ cls := "FlotationCircuit$State", name := "putFeed", desc := "(III)V" } : Jvm.MethodName) prog_9_method_14_code (4 : Nat) (Option.none : Option Jvm.ClassFile.FieldType)) ∈ UW := List.mem_filter.mpr ⟨List.mem_of_getElem? (i := 595) rfl, rfl⟩
set_option maxRecDepth 100000 in
theorem uw_596 : (Jvm.Cond.methodLink "FlotationCircuit$CircuitText" (49 : Nat) ({ cls := "FlotationCircuit$State", name := "pushCell", desc := "(IIII)V" } : Jvm.MethodName)) ∈ UW := List.mem_filter.mpr ⟨List.mem_of_getElem? (i := 596) rfl, rfl⟩
set_option maxRecDepth 100000 in
theorem uw_597 : (Jvm.Cond.instanceMethod ({ cls := "FlotationCircuit$State", name := "pushCell", desc := "(IIII)V" } : Jvm.MethodName)) ∈ UW := List.mem_filter.mpr ⟨List.mem_of_getElem? (i := 597) rfl, rfl⟩
set_option maxRecDepth 100000 in
theorem uw_598 : (Jvm.Cond.selects "FlotationCircuit$State" ({ cls := "FlotationCircuit$State", name := "pushCell", desc := "(IIII)V" } : Jvm.MethodName) ({ cls := "FlotationCircuit$State", name := "pushCell", desc := "(IIII)V" } : Jvm.MethodName)) ∈ UW := List.mem_filter.mpr ⟨List.mem_of_getElem? (i := 598) rfl, rfl⟩
set_option maxRecDepth 100000 in
theorem uw_599 : (Jvm.Cond.code ({ cls := "FlotationCircuit$State", name := "pushCell", desc := "(IIII)V" } : Jvm.MethodName) prog_9_method_19_code (6 : Nat) (Option.none : Option Jvm.ClassFile.FieldType)) ∈ UW := List.mem_filter.mpr ⟨List.mem_of_getElem? (i := 599) rfl, rfl⟩
set_option maxRecDepth 100000 in
theorem uw_600 : (Jvm.Cond.methodLink "FlotationCircuit$State" (26 : Nat) ({ cls := "FlotationCircuit$State", name := "putPercent", desc := "(III)V" } : Jvm.MethodName)) ∈ UW := List.mem_filter.mpr ⟨List.mem_of_getElem? (i := 600) rfl, rfl⟩
set_option maxRecDepth 100000 in
theorem uw_601 : (Jvm.Cond.methodLink "FlotationCircuit$State" (30 : Nat) ({ cls := "FlotationCircuit$State", name := "putRoute", desc := "(III)V" } : Jvm.MethodName)) ∈ UW := List.mem_filter.mpr ⟨List.mem_of_getElem? (i := 601) rfl, rfl⟩
set_option maxRecDepth 100000 in
theorem uw_602 : (Jvm.Cond.instanceMethod ({ cls := "FlotationCircuit$State", name := "putRoute", desc := "(III)V" } : Jvm.MethodName)) ∈ UW := List.mem_filter.mpr ⟨List.mem_of_getElem? (i := 602) rfl, rfl⟩
set_option maxRecDepth 100000 in
theorem uw_603 : (Jvm.Cond.selects "FlotationCircuit$State" ({ cls := "FlotationCircuit$State", name := "putRoute", desc := "(III)V" } : Jvm.MethodName) ({ cls := "FlotationCircuit$State", name := "putRoute", desc := "(III)V" } : Jvm.MethodName)) ∈ UW := List.mem_filter.mpr ⟨List.mem_of_getElem? (i := 603) rfl, rfl⟩
set_option maxRecDepth 100000 in
theorem uw_604 : (Jvm.Cond.code ({ cls := "FlotationCircuit$State", name := "putRoute", desc := "(III)V" } : Jvm.MethodName) prog_9_method_8_code (4 : Nat) (Option.none : Option Jvm.ClassFile.FieldType)) ∈ UW := List.mem_filter.mpr ⟨List.mem_of_getElem? (i := 604) rfl, rfl⟩
set_option maxRecDepth 100000 in
theorem uw_605 : (Jvm.Cond.methodLink "FlotationCircuit$State" (33 : Nat) ({ cls := "FlotationCircuit$State", name := "putHeld", desc := "(III)V" } : Jvm.MethodName)) ∈ UW := List.mem_filter.mpr ⟨List.mem_of_getElem? (i := 605) rfl, rfl⟩
set_option maxRecDepth 100000 in
theorem uw_606 : (Jvm.Cond.instanceMethod ({ cls := "FlotationCircuit$State", name := "putHeld", desc := "(III)V" } : Jvm.MethodName)) ∈ UW := List.mem_filter.mpr ⟨List.mem_of_getElem? (i := 606) rfl, rfl⟩
set_option maxRecDepth 100000 in
theorem uw_607 : (Jvm.Cond.selects "FlotationCircuit$State" ({ cls := "FlotationCircuit$State", name := "putHeld", desc := "(III)V" } : Jvm.MethodName) ({ cls := "FlotationCircuit$State", name := "putHeld", desc := "(III)V" } : Jvm.MethodName)) ∈ UW := List.mem_filter.mpr ⟨List.mem_of_getElem? (i := 607) rfl, rfl⟩
set_option maxRecDepth 100000 in
theorem uw_608 : (Jvm.Cond.code ({ cls := "FlotationCircuit$State", name := "putHeld", desc := "(III)V" } : Jvm.MethodName) prog_9_method_16_code (4 : Nat) (Option.none : Option Jvm.ClassFile.FieldType)) ∈ UW := List.mem_filter.mpr ⟨List.mem_of_getElem? (i := 608) rfl, rfl⟩
set_option maxRecDepth 100000 in
theorem uw_609 : (Jvm.Cond.methodLink "FlotationCircuit" (119 : Nat) ({ cls := "FlotationCircuit$History", name := "forget", desc := "()V" } : Jvm.MethodName)) ∈ UW := List.mem_filter.mpr ⟨List.mem_of_getElem? (i := 609) rfl, rfl⟩
set_option maxRecDepth 100000 in
theorem uw_610 : (Jvm.Cond.instanceMethod ({ cls := "FlotationCircuit$History", name := "forget", desc := "()V" } : Jvm.MethodName)) ∈ UW := List.mem_filter.mpr ⟨List.mem_of_getElem? (i := 610) rfl, rfl⟩
set_option maxRecDepth 100000 in
theorem uw_611 : (Jvm.Cond.selects "FlotationCircuit$History" ({ cls := "FlotationCircuit$History", name := "forget", desc := "()V" } : Jvm.MethodName) ({ cls := "FlotationCircuit$History", name := "forget", desc := "()V" } : Jvm.MethodName)) ∈ UW := List.mem_filter.mpr ⟨List.mem_of_getElem? (i := 611) rfl, rfl⟩
set_option maxRecDepth 100000 in
theorem uw_612 : (Jvm.Cond.code ({ cls := "FlotationCircuit$History", name := "forget", desc := "()V" } : Jvm.MethodName) prog_4_method_5_code (1 : Nat) (Option.none : Option Jvm.ClassFile.FieldType)) ∈ UW := List.mem_filter.mpr ⟨List.mem_of_getElem? (i := 612) rfl, rfl⟩
set_option maxRecDepth 100000 in
theorem uw_613 : (Jvm.Cond.methodLink "FlotationCircuitLaw" (127 : Nat) ({ cls := "FlotationCircuitLaw", name := "recovery", desc := "(LFlotationCircuit;II[J)I" } : Jvm.MethodName)) ∈ UW := List.mem_filter.mpr ⟨List.mem_of_getElem? (i := 613) rfl, rfl⟩
set_option maxRecDepth 100000 in
theorem uw_614 : (Jvm.Cond.static ({ cls := "FlotationCircuitLaw", name := "recovery", desc := "(LFlotationCircuit;II[J)I" } : Jvm.MethodName)) ∈ UW := List.mem_filter.mpr ⟨List.mem_of_getElem? (i := 614) rfl, rfl⟩
set_option maxRecDepth 100000 in
theorem uw_615 : (Jvm.Cond.codeWith ({ cls := "FlotationCircuitLaw", name := "recovery", desc := "(LFlotationCircuit;II[J)I" } : Jvm.MethodName) method_5_code (5 : Nat) (Option.some Jvm.ClassFile.FieldType.int) [((0 : Nat), (10 : Nat), (13 : Nat), (25 : Nat))]) ∈ UW := List.mem_filter.mpr ⟨List.mem_of_getElem? (i := 615) rfl, rfl⟩
set_option maxRecDepth 100000 in
theorem uw_616 : (Jvm.Cond.classLink "FlotationCircuitLaw" (25 : Nat) "java/lang/IndexOutOfBoundsException") ∈ UW := List.mem_filter.mpr ⟨List.mem_of_getElem? (i := 616) rfl, rfl⟩
set_option maxRecDepth 100000 in
theorem uw_617 : (Jvm.Cond.methodLink "FlotationCircuitLaw" (21 : Nat) ({ cls := "FlotationCircuit", name := "recovery", desc := "(II)I" } : Jvm.MethodName)) ∈ UW := List.mem_filter.mpr ⟨List.mem_of_getElem? (i := 617) rfl, rfl⟩
set_option maxRecDepth 100000 in
theorem uw_618 : (Jvm.Cond.instanceMethod ({ cls := "FlotationCircuit", name := "recovery", desc := "(II)I" } : Jvm.MethodName)) ∈ UW := List.mem_filter.mpr ⟨List.mem_of_getElem? (i := 618) rfl, rfl⟩
set_option maxRecDepth 100000 in
theorem uw_619 : (Jvm.Cond.selects "FlotationCircuit" ({ cls := "FlotationCircuit", name := "recovery", desc := "(II)I" } : Jvm.MethodName) ({ cls := "FlotationCircuit", name := "recovery", desc := "(II)I" } : Jvm.MethodName)) ∈ UW := List.mem_filter.mpr ⟨List.mem_of_getElem? (i := 619) rfl, rfl⟩
set_option maxRecDepth 100000 in
theorem uw_620 : (Jvm.Cond.code ({ cls := "FlotationCircuit", name := "recovery", desc := "(II)I" } : Jvm.MethodName) prog_1_method_7_code (3 : Nat) (Option.some Jvm.ClassFile.FieldType.int)) ∈ UW := List.mem_filter.mpr ⟨List.mem_of_getElem? (i := 620) rfl, rfl⟩
set_option maxRecDepth 100000 in
theorem uw_621 : (Jvm.Cond.methodLink "FlotationCircuit" (125 : Nat) ({ cls := "FlotationCircuit", name := "requireCell", desc := "(I)V" } : Jvm.MethodName)) ∈ UW := List.mem_filter.mpr ⟨List.mem_of_getElem? (i := 621) rfl, rfl⟩
set_option maxRecDepth 100000 in
theorem uw_623 : (Jvm.Cond.instanceMethod ({ cls := "FlotationCircuit", name := "requireCell", desc := "(I)V" } : Jvm.MethodName)) ∈ UW := List.mem_filter.mpr ⟨List.mem_of_getElem? (i := 623) rfl, rfl⟩
set_option maxRecDepth 100000 in
theorem uw_624 : (Jvm.Cond.code ({ cls := "FlotationCircuit", name := "requireCell", desc := "(I)V" } : Jvm.MethodName) prog_1_method_40_code (2 : Nat) (Option.none : Option Jvm.ClassFile.FieldType)) ∈ UW := List.mem_filter.mpr ⟨List.mem_of_getElem? (i := 624) rfl, rfl⟩
set_option maxRecDepth 100000 in
theorem uw_625 : (Jvm.Cond.methodLink "FlotationCircuit" (286 : Nat) ({ cls := "FlotationCircuit$State", name := "has", desc := "(I)Z" } : Jvm.MethodName)) ∈ UW := List.mem_filter.mpr ⟨List.mem_of_getElem? (i := 625) rfl, rfl⟩
set_option maxRecDepth 100000 in
theorem uw_626 : (Jvm.Cond.classLink "FlotationCircuit" (198 : Nat) "java/lang/IndexOutOfBoundsException") ∈ UW := List.mem_filter.mpr ⟨List.mem_of_getElem? (i := 626) rfl, rfl⟩
set_option maxRecDepth 100000 in
theorem uw_627 : (Jvm.Cond.instantiable "java/lang/IndexOutOfBoundsException" (6 : Nat)) ∈ UW := List.mem_filter.mpr ⟨List.mem_of_getElem? (i := 627) rfl, rfl⟩
set_option maxRecDepth 100000 in
theorem tw_628 : (Jvm.Cond.castable "java/lang/IndexOutOfBoundsException" "java/lang/IndexOutOfBoundsException") ∈ lw_tbl := List.mem_of_getElem? (i := 628) rfl
set_option maxRecDepth 100000 in
theorem uw_629 : (Jvm.Cond.selects "java/lang/IndexOutOfBoundsException" ({ cls := "java/lang/Throwable", name := "fillInStackTrace", desc := "(I)Ljava/lang/Throwable;" } : Jvm.MethodName) ({ cls := "java/lang/Throwable", name := "fillInStackTrace", desc := "(I)Ljava/lang/Throwable;" } : Jvm.MethodName)) ∈ UW := List.mem_filter.mpr ⟨List.mem_of_getElem? (i := 629) rfl, rfl⟩
set_option maxRecDepth 100000 in
theorem uw_630 : (Jvm.Cond.lays "java/lang/IndexOutOfBoundsException" "java/lang/Throwable" "cause" "Ljava/lang/Throwable;") ∈ UW := List.mem_filter.mpr ⟨List.mem_of_getElem? (i := 630) rfl, rfl⟩
set_option maxRecDepth 100000 in
theorem uw_631 : (Jvm.Cond.lays "java/lang/IndexOutOfBoundsException" "java/lang/Throwable" "stackTrace" "[Ljava/lang/StackTraceElement;") ∈ UW := List.mem_filter.mpr ⟨List.mem_of_getElem? (i := 631) rfl, rfl⟩
set_option maxRecDepth 100000 in
theorem uw_632 : (Jvm.Cond.lays "java/lang/IndexOutOfBoundsException" "java/lang/Throwable" "suppressedExceptions" "Ljava/util/List;") ∈ UW := List.mem_filter.mpr ⟨List.mem_of_getElem? (i := 632) rfl, rfl⟩
set_option maxRecDepth 100000 in
theorem uw_633 : (Jvm.Cond.lays "java/lang/IndexOutOfBoundsException" "java/lang/Throwable" "detailMessage" "Ljava/lang/String;") ∈ UW := List.mem_filter.mpr ⟨List.mem_of_getElem? (i := 633) rfl, rfl⟩
set_option maxRecDepth 100000 in
theorem uw_634 : (Jvm.Cond.lays "java/lang/IndexOutOfBoundsException" "java/lang/Throwable" "backtrace" "Ljava/lang/Object;") ∈ UW := List.mem_filter.mpr ⟨List.mem_of_getElem? (i := 634) rfl, rfl⟩
set_option maxRecDepth 100000 in
theorem tw_635 : (Jvm.Cond.stringRef "FlotationCircuit" (289 : Nat) "no such cell") ∈ lw_tbl := List.mem_of_getElem? (i := 635) rfl
set_option maxRecDepth 100000 in
theorem uw_636 : (Jvm.Cond.methodLink "FlotationCircuit" (202 : Nat) ({ cls := "java/lang/IndexOutOfBoundsException", name := "<init>", desc := "(Ljava/lang/String;)V" } : Jvm.MethodName)) ∈ UW := List.mem_filter.mpr ⟨List.mem_of_getElem? (i := 636) rfl, rfl⟩
set_option maxRecDepth 100000 in
theorem uw_637 : (Jvm.Cond.instanceMethod ({ cls := "java/lang/IndexOutOfBoundsException", name := "<init>", desc := "(Ljava/lang/String;)V" } : Jvm.MethodName)) ∈ UW := List.mem_filter.mpr ⟨List.mem_of_getElem? (i := 637) rfl, rfl⟩
set_option maxRecDepth 100000 in
theorem uw_638 : (Jvm.Cond.code ({ cls := "java/lang/IndexOutOfBoundsException", name := "<init>", desc := "(Ljava/lang/String;)V" } : Jvm.MethodName) prog_16_method_2_code (2 : Nat) (Option.none : Option Jvm.ClassFile.FieldType)) ∈ UW := List.mem_filter.mpr ⟨List.mem_of_getElem? (i := 638) rfl, rfl⟩
set_option maxRecDepth 100000 in
theorem uw_639 : (Jvm.Cond.methodLink "java/lang/IndexOutOfBoundsException" (7 : Nat) ({ cls := "java/lang/RuntimeException", name := "<init>", desc := "(Ljava/lang/String;)V" } : Jvm.MethodName)) ∈ UW := List.mem_filter.mpr ⟨List.mem_of_getElem? (i := 639) rfl, rfl⟩
set_option maxRecDepth 100000 in
theorem uw_640 : (Jvm.Cond.lays "java/lang/IndexOutOfBoundsException" "java/lang/Throwable" "depth" "I") ∈ UW := List.mem_filter.mpr ⟨List.mem_of_getElem? (i := 640) rfl, rfl⟩
set_option maxRecDepth 100000 in
theorem uw_641 : (Jvm.Cond.superclass "java/lang/IndexOutOfBoundsException" "java/lang/RuntimeException") ∈ UW := List.mem_filter.mpr ⟨List.mem_of_getElem? (i := 641) rfl, rfl⟩
set_option maxRecDepth 100000 in
theorem uw_642 : (Jvm.Cond.methodLink "FlotationCircuit" (128 : Nat) ({ cls := "FlotationCircuit", name := "requireOneOfTwo", desc := "(I)V" } : Jvm.MethodName)) ∈ UW := List.mem_filter.mpr ⟨List.mem_of_getElem? (i := 642) rfl, rfl⟩
set_option maxRecDepth 100000 in
theorem uw_643 : (Jvm.Cond.static ({ cls := "FlotationCircuit", name := "requireOneOfTwo", desc := "(I)V" } : Jvm.MethodName)) ∈ UW := List.mem_filter.mpr ⟨List.mem_of_getElem? (i := 643) rfl, rfl⟩
set_option maxRecDepth 100000 in
theorem uw_644 : (Jvm.Cond.code ({ cls := "FlotationCircuit", name := "requireOneOfTwo", desc := "(I)V" } : Jvm.MethodName) prog_1_method_37_code (1 : Nat) (Option.none : Option Jvm.ClassFile.FieldType)) ∈ UW := List.mem_filter.mpr ⟨List.mem_of_getElem? (i := 644) rfl, rfl⟩
set_option maxRecDepth 100000 in
theorem tw_645 : (Jvm.Cond.stringRef "FlotationCircuit" (277 : Nat) "neither 0 nor 1") ∈ lw_tbl := List.mem_of_getElem? (i := 645) rfl
set_option maxRecDepth 100000 in
theorem uw_646 : (Jvm.Cond.methodLink "FlotationCircuitLaw" (131 : Nat) ({ cls := "FlotationCircuitLaw", name := "destination", desc := "(LFlotationCircuit;II[J)I" } : Jvm.MethodName)) ∈ UW := List.mem_filter.mpr ⟨List.mem_of_getElem? (i := 646) rfl, rfl⟩
set_option maxRecDepth 100000 in
theorem uw_647 : (Jvm.Cond.static ({ cls := "FlotationCircuitLaw", name := "destination", desc := "(LFlotationCircuit;II[J)I" } : Jvm.MethodName)) ∈ UW := List.mem_filter.mpr ⟨List.mem_of_getElem? (i := 647) rfl, rfl⟩
set_option maxRecDepth 100000 in
theorem uw_648 : (Jvm.Cond.codeWith ({ cls := "FlotationCircuitLaw", name := "destination", desc := "(LFlotationCircuit;II[J)I" } : Jvm.MethodName) method_6_code (5 : Nat) (Option.some Jvm.ClassFile.FieldType.int) [((0 : Nat), (10 : Nat), (13 : Nat), (25 : Nat))]) ∈ UW := List.mem_filter.mpr ⟨List.mem_of_getElem? (i := 648) rfl, rfl⟩
set_option maxRecDepth 100000 in
theorem uw_649 : (Jvm.Cond.methodLink "FlotationCircuitLaw" (27 : Nat) ({ cls := "FlotationCircuit", name := "destination", desc := "(II)I" } : Jvm.MethodName)) ∈ UW := List.mem_filter.mpr ⟨List.mem_of_getElem? (i := 649) rfl, rfl⟩
set_option maxRecDepth 100000 in
theorem uw_650 : (Jvm.Cond.instanceMethod ({ cls := "FlotationCircuit", name := "destination", desc := "(II)I" } : Jvm.MethodName)) ∈ UW := List.mem_filter.mpr ⟨List.mem_of_getElem? (i := 650) rfl, rfl⟩
set_option maxRecDepth 100000 in
theorem uw_651 : (Jvm.Cond.selects "FlotationCircuit" ({ cls := "FlotationCircuit", name := "destination", desc := "(II)I" } : Jvm.MethodName) ({ cls := "FlotationCircuit", name := "destination", desc := "(II)I" } : Jvm.MethodName)) ∈ UW := List.mem_filter.mpr ⟨List.mem_of_getElem? (i := 651) rfl, rfl⟩
set_option maxRecDepth 100000 in
theorem uw_652 : (Jvm.Cond.code ({ cls := "FlotationCircuit", name := "destination", desc := "(II)I" } : Jvm.MethodName) prog_1_method_8_code (3 : Nat) (Option.some Jvm.ClassFile.FieldType.int)) ∈ UW := List.mem_filter.mpr ⟨List.mem_of_getElem? (i := 652) rfl, rfl⟩
set_option maxRecDepth 100000 in
theorem uw_653 : (Jvm.Cond.methodLink "FlotationCircuit" (135 : Nat) ({ cls := "FlotationCircuit$State", name := "route", desc := "(II)I" } : Jvm.MethodName)) ∈ UW := List.mem_filter.mpr ⟨List.mem_of_getElem? (i := 653) rfl, rfl⟩
set_option maxRecDepth 100000 in
theorem uw_654 : (Jvm.Cond.methodLink "FlotationCircuitLaw" (138 : Nat) ({ cls := "FlotationCircuitLaw", name := "feedAmount", desc := "(LFlotationCircuit;I[J)I" } : Jvm.MethodName)) ∈ UW := List.mem_filter.mpr ⟨List.mem_of_getElem? (i := 654) rfl, rfl⟩
set_option maxRecDepth 100000 in
theorem uw_655 : (Jvm.Cond.static ({ cls := "FlotationCircuitLaw", name := "feedAmount", desc := "(LFlotationCircuit;I[J)I" } : Jvm.MethodName)) ∈ UW := List.mem_filter.mpr ⟨List.mem_of_getElem? (i := 655) rfl, rfl⟩
set_option maxRecDepth 100000 in
theorem uw_656 : (Jvm.Cond.codeWith ({ cls := "FlotationCircuitLaw", name := "feedAmount", desc := "(LFlotationCircuit;I[J)I" } : Jvm.MethodName) method_7_code (4 : Nat) (Option.some Jvm.ClassFile.FieldType.int) [((0 : Nat), (9 : Nat), (12 : Nat), (25 : Nat))]) ∈ UW := List.mem_filter.mpr ⟨List.mem_of_getElem? (i := 656) rfl, rfl⟩
set_option maxRecDepth 100000 in
theorem uw_657 : (Jvm.Cond.methodLink "FlotationCircuitLaw" (30 : Nat) ({ cls := "FlotationCircuit", name := "feedAmount", desc := "(I)I" } : Jvm.MethodName)) ∈ UW := List.mem_filter.mpr ⟨List.mem_of_getElem? (i := 657) rfl, rfl⟩
set_option maxRecDepth 100000 in
theorem uw_658 : (Jvm.Cond.instanceMethod ({ cls := "FlotationCircuit", name := "feedAmount", desc := "(I)I" } : Jvm.MethodName)) ∈ UW := List.mem_filter.mpr ⟨List.mem_of_getElem? (i := 658) rfl, rfl⟩
set_option maxRecDepth 100000 in
theorem uw_659 : (Jvm.Cond.selects "FlotationCircuit" ({ cls := "FlotationCircuit", name := "feedAmount", desc := "(I)I" } : Jvm.MethodName) ({ cls := "FlotationCircuit", name := "feedAmount", desc := "(I)I" } : Jvm.MethodName)) ∈ UW := List.mem_filter.mpr ⟨List.mem_of_getElem? (i := 659) rfl, rfl⟩
set_option maxRecDepth 100000 in
theorem uw_660 : (Jvm.Cond.code ({ cls := "FlotationCircuit", name := "feedAmount", desc := "(I)I" } : Jvm.MethodName) prog_1_method_10_code (2 : Nat) (Option.some Jvm.ClassFile.FieldType.int)) ∈ UW := List.mem_filter.mpr ⟨List.mem_of_getElem? (i := 660) rfl, rfl⟩
set_option maxRecDepth 100000 in
theorem uw_661 : (Jvm.Cond.methodLink "FlotationCircuit" (141 : Nat) ({ cls := "FlotationCircuit$State", name := "feed", desc := "(I)I" } : Jvm.MethodName)) ∈ UW := List.mem_filter.mpr ⟨List.mem_of_getElem? (i := 661) rfl, rfl⟩
set_option maxRecDepth 100000 in
theorem uw_662 : (Jvm.Cond.methodLink "FlotationCircuitLaw" (141 : Nat) ({ cls := "FlotationCircuitLaw", name := "addCell", desc := "(LFlotationCircuit;IIII[J)I" } : Jvm.MethodName)) ∈ UW := List.mem_filter.mpr ⟨List.mem_of_getElem? (i := 662) rfl, rfl⟩
set_option maxRecDepth 100000 in
theorem uw_663 : (Jvm.Cond.static ({ cls := "FlotationCircuitLaw", name := "addCell", desc := "(LFlotationCircuit;IIII[J)I" } : Jvm.MethodName)) ∈ UW := List.mem_filter.mpr ⟨List.mem_of_getElem? (i := 663) rfl, rfl⟩
set_option maxRecDepth 100000 in
theorem uw_664 : (Jvm.Cond.codeWith ({ cls := "FlotationCircuitLaw", name := "addCell", desc := "(LFlotationCircuit;IIII[J)I" } : Jvm.MethodName) method_8_code (7 : Nat) (Option.some Jvm.ClassFile.FieldType.int) [((0 : Nat), (14 : Nat), (17 : Nat), (13 : Nat)), ((0 : Nat), (14 : Nat), (21 : Nat), (15 : Nat))]) ∈ UW := List.mem_filter.mpr ⟨List.mem_of_getElem? (i := 664) rfl, rfl⟩
set_option maxRecDepth 100000 in
theorem uw_665 : (Jvm.Cond.methodLink "FlotationCircuitLaw" (33 : Nat) ({ cls := "FlotationCircuit", name := "addCell", desc := "(IIII)I" } : Jvm.MethodName)) ∈ UW := List.mem_filter.mpr ⟨List.mem_of_getElem? (i := 665) rfl, rfl⟩
set_option maxRecDepth 100000 in
theorem uw_666 : (Jvm.Cond.instanceMethod ({ cls := "FlotationCircuit", name := "addCell", desc := "(IIII)I" } : Jvm.MethodName)) ∈ UW := List.mem_filter.mpr ⟨List.mem_of_getElem? (i := 666) rfl, rfl⟩
set_option maxRecDepth 100000 in
theorem uw_667 : (Jvm.Cond.selects "FlotationCircuit" ({ cls := "FlotationCircuit", name := "addCell", desc := "(IIII)I" } : Jvm.MethodName) ({ cls := "FlotationCircuit", name := "addCell", desc := "(IIII)I" } : Jvm.MethodName)) ∈ UW := List.mem_filter.mpr ⟨List.mem_of_getElem? (i := 667) rfl, rfl⟩
set_option maxRecDepth 100000 in
theorem uw_668 : (Jvm.Cond.code ({ cls := "FlotationCircuit", name := "addCell", desc := "(IIII)I" } : Jvm.MethodName) prog_1_method_11_code (5 : Nat) (Option.some Jvm.ClassFile.FieldType.int)) ∈ UW := List.mem_filter.mpr ⟨List.mem_of_getElem? (i := 668) rfl, rfl⟩
set_option maxRecDepth 100000 in
theorem uw_669 : (Jvm.Cond.methodLink "FlotationCircuit" (145 : Nat) ({ cls := "FlotationCircuit", name := "requireDestination", desc := "(I)V" } : Jvm.MethodName)) ∈ UW := List.mem_filter.mpr ⟨List.mem_of_getElem? (i := 669) rfl, rfl⟩
set_option maxRecDepth 100000 in
theorem uw_670 : (Jvm.Cond.static ({ cls := "FlotationCircuit", name := "requireDestination", desc := "(I)V" } : Jvm.MethodName)) ∈ UW := List.mem_filter.mpr ⟨List.mem_of_getElem? (i := 670) rfl, rfl⟩
set_option maxRecDepth 100000 in
theorem uw_671 : (Jvm.Cond.code ({ cls := "FlotationCircuit", name := "requireDestination", desc := "(I)V" } : Jvm.MethodName) prog_1_method_39_code (1 : Nat) (Option.none : Option Jvm.ClassFile.FieldType)) ∈ UW := List.mem_filter.mpr ⟨List.mem_of_getElem? (i := 671) rfl, rfl⟩
set_option maxRecDepth 100000 in
theorem uw_672 : (Jvm.Cond.methodLink "FlotationCircuit" (194 : Nat) ({ cls := "FlotationCircuit", name := "isProduct", desc := "(I)Z" } : Jvm.MethodName)) ∈ UW := List.mem_filter.mpr ⟨List.mem_of_getElem? (i := 672) rfl, rfl⟩
set_option maxRecDepth 100000 in
theorem tw_673 : (Jvm.Cond.stringRef "FlotationCircuit" (284 : Nat) "no such destination") ∈ lw_tbl := List.mem_of_getElem? (i := 673) rfl
set_option maxRecDepth 100000 in
theorem tw_674 : (Jvm.Cond.stringRef "FlotationCircuit" (148 : Nat) "there is no room for another cell") ∈ lw_tbl := List.mem_of_getElem? (i := 674) rfl
set_option maxRecDepth 100000 in
theorem uw_675 : (Jvm.Cond.methodLink "FlotationCircuit" (153 : Nat) ({ cls := "FlotationCircuit$State", name := "pushCell", desc := "(IIII)V" } : Jvm.MethodName)) ∈ UW := List.mem_filter.mpr ⟨List.mem_of_getElem? (i := 675) rfl, rfl⟩
set_option maxRecDepth 100000 in
theorem uw_676 : (Jvm.Cond.methodLink "FlotationCircuitLaw" (145 : Nat) ({ cls := "FlotationCircuitLaw", name := "removeLastCell", desc := "(LFlotationCircuit;[J)I" } : Jvm.MethodName)) ∈ UW := List.mem_filter.mpr ⟨List.mem_of_getElem? (i := 676) rfl, rfl⟩
set_option maxRecDepth 100000 in
theorem uw_677 : (Jvm.Cond.static ({ cls := "FlotationCircuitLaw", name := "removeLastCell", desc := "(LFlotationCircuit;[J)I" } : Jvm.MethodName)) ∈ UW := List.mem_filter.mpr ⟨List.mem_of_getElem? (i := 677) rfl, rfl⟩
set_option maxRecDepth 100000 in
theorem uw_678 : (Jvm.Cond.codeWith ({ cls := "FlotationCircuitLaw", name := "removeLastCell", desc := "(LFlotationCircuit;[J)I" } : Jvm.MethodName) method_9_code (3 : Nat) (Option.some Jvm.ClassFile.FieldType.int) [((0 : Nat), (8 : Nat), (11 : Nat), (15 : Nat))]) ∈ UW := List.mem_filter.mpr ⟨List.mem_of_getElem? (i := 678) rfl, rfl⟩
set_option maxRecDepth 100000 in
theorem uw_679 : (Jvm.Cond.methodLink "FlotationCircuitLaw" (37 : Nat) ({ cls := "FlotationCircuit", name := "removeLastCell", desc := "()I" } : Jvm.MethodName)) ∈ UW := List.mem_filter.mpr ⟨List.mem_of_getElem? (i := 679) rfl, rfl⟩
set_option maxRecDepth 100000 in
theorem uw_680 : (Jvm.Cond.instanceMethod ({ cls := "FlotationCircuit", name := "removeLastCell", desc := "()I" } : Jvm.MethodName)) ∈ UW := List.mem_filter.mpr ⟨List.mem_of_getElem? (i := 680) rfl, rfl⟩
set_option maxRecDepth 100000 in
theorem uw_681 : (Jvm.Cond.selects "FlotationCircuit" ({ cls := "FlotationCircuit", name := "removeLastCell", desc := "()I" } : Jvm.MethodName) ({ cls := "FlotationCircuit", name := "removeLastCell", desc := "()I" } : Jvm.MethodName)) ∈ UW := List.mem_filter.mpr ⟨List.mem_of_getElem? (i := 681) rfl, rfl⟩
set_option maxRecDepth 100000 in
theorem uw_682 : (Jvm.Cond.code ({ cls := "FlotationCircuit", name := "removeLastCell", desc := "()I" } : Jvm.MethodName) prog_1_method_12_code (1 : Nat) (Option.some Jvm.ClassFile.FieldType.int)) ∈ UW := List.mem_filter.mpr ⟨List.mem_of_getElem? (i := 682) rfl, rfl⟩
set_option maxRecDepth 100000 in
theorem tw_683 : (Jvm.Cond.stringRef "FlotationCircuit" (157 : Nat) "there is no cell") ∈ lw_tbl := List.mem_of_getElem? (i := 683) rfl
set_option maxRecDepth 100000 in
theorem uw_684 : (Jvm.Cond.methodLink "FlotationCircuit" (159 : Nat) ({ cls := "FlotationCircuit$State", name := "popCell", desc := "()V" } : Jvm.MethodName)) ∈ UW := List.mem_filter.mpr ⟨List.mem_of_getElem? (i := 684) rfl, rfl⟩
set_option maxRecDepth 100000 in
theorem uw_685 : (Jvm.Cond.instanceMethod ({ cls := "FlotationCircuit$State", name := "popCell", desc := "()V" } : Jvm.MethodName)) ∈ UW := List.mem_filter.mpr ⟨List.mem_of_getElem? (i := 685) rfl, rfl⟩
set_option maxRecDepth 100000 in
theorem uw_686 : (Jvm.Cond.selects "FlotationCircuit$State" ({ cls := "FlotationCircuit$State", name := "popCell", desc := "()V" } : Jvm.MethodName) ({ cls := "FlotationCircuit$State", name := "popCell", desc := "()V" } : Jvm.MethodName)) ∈ UW := List.mem_filter.mpr ⟨List.mem_of_getElem? (i := 686) rfl, rfl⟩
set_option maxRecDepth 100000 in
theorem uw_687 : (Jvm.Cond.code ({ cls := "FlotationCircuit$State", name := "popCell", desc := "()V" } : Jvm.MethodName) prog_9_method_20_code (1 : Nat) (Option.none : Option Jvm.ClassFile.FieldType)) ∈ UW := List.mem_filter.mpr ⟨List.mem_of_getElem? (i := 687) rfl, rfl⟩
set_option maxRecDepth 100000 in
theorem uw_688 : (Jvm.Cond.methodLink "FlotationCircuitLaw" (148 : Nat) ({ cls := "FlotationCircuitLaw", name := "setRecovery", desc := "(LFlotationCircuit;III[J)I" } : Jvm.MethodName)) ∈ UW := List.mem_filter.mpr ⟨List.mem_of_getElem? (i := 688) rfl, rfl⟩
set_option maxRecDepth 100000 in
theorem uw_689 : (Jvm.Cond.static ({ cls := "FlotationCircuitLaw", name := "setRecovery", desc := "(LFlotationCircuit;III[J)I" } : Jvm.MethodName)) ∈ UW := List.mem_filter.mpr ⟨List.mem_of_getElem? (i := 689) rfl, rfl⟩
set_option maxRecDepth 100000 in
theorem uw_690 : (Jvm.Cond.codeWith ({ cls := "FlotationCircuitLaw", name := "setRecovery", desc := "(LFlotationCircuit;III[J)I" } : Jvm.MethodName) method_10_code (6 : Nat) (Option.some Jvm.ClassFile.FieldType.int) [((0 : Nat), (12 : Nat), (15 : Nat), (25 : Nat)), ((0 : Nat), (12 : Nat), (19 : Nat), (13 : Nat))]) ∈ UW := List.mem_filter.mpr ⟨List.mem_of_getElem? (i := 690) rfl, rfl⟩
set_option maxRecDepth 100000 in
theorem uw_691 : (Jvm.Cond.methodLink "FlotationCircuitLaw" (40 : Nat) ({ cls := "FlotationCircuit", name := "setRecovery", desc := "(III)I" } : Jvm.MethodName)) ∈ UW := List.mem_filter.mpr ⟨List.mem_of_getElem? (i := 691) rfl, rfl⟩
set_option maxRecDepth 100000 in
theorem uw_692 : (Jvm.Cond.instanceMethod ({ cls := "FlotationCircuit", name := "setRecovery", desc := "(III)I" } : Jvm.MethodName)) ∈ UW := List.mem_filter.mpr ⟨List.mem_of_getElem? (i := 692) rfl, rfl⟩
set_option maxRecDepth 100000 in
theorem uw_693 : (Jvm.Cond.selects "FlotationCircuit" ({ cls := "FlotationCircuit", name := "setRecovery", desc := "(III)I" } : Jvm.MethodName) ({ cls := "FlotationCircuit", name := "setRecovery", desc := "(III)I" } : Jvm.MethodName)) ∈ UW := List.mem_filter.mpr ⟨List.mem_of_getElem? (i := 693) rfl, rfl⟩
set_option maxRecDepth 100000 in
theorem uw_694 : (Jvm.Cond.code ({ cls := "FlotationCircuit", name := "setRecovery", desc := "(III)I" } : Jvm.MethodName) prog_1_method_13_code (5 : Nat) (Option.some Jvm.ClassFile.FieldType.int)) ∈ UW := List.mem_filter.mpr ⟨List.mem_of_getElem? (i := 694) rfl, rfl⟩
set_option maxRecDepth 100000 in
theorem uw_695 : (Jvm.Cond.methodLink "FlotationCircuitLaw" (152 : Nat) ({ cls := "FlotationCircuitLaw", name := "setDestination", desc := "(LFlotationCircuit;III[J)I" } : Jvm.MethodName)) ∈ UW := List.mem_filter.mpr ⟨List.mem_of_getElem? (i := 695) rfl, rfl⟩
set_option maxRecDepth 100000 in
theorem uw_696 : (Jvm.Cond.static ({ cls := "FlotationCircuitLaw", name := "setDestination", desc := "(LFlotationCircuit;III[J)I" } : Jvm.MethodName)) ∈ UW := List.mem_filter.mpr ⟨List.mem_of_getElem? (i := 696) rfl, rfl⟩
set_option maxRecDepth 100000 in
theorem uw_697 : (Jvm.Cond.codeWith ({ cls := "FlotationCircuitLaw", name := "setDestination", desc := "(LFlotationCircuit;III[J)I" } : Jvm.MethodName) method_11_code (6 : Nat) (Option.some Jvm.ClassFile.FieldType.int) [((0 : Nat), (12 : Nat), (15 : Nat), (25 : Nat)), ((0 : Nat), (12 : Nat), (19 : Nat), (13 : Nat))]) ∈ UW := List.mem_filter.mpr ⟨List.mem_of_getElem? (i := 697) rfl, rfl⟩
set_option maxRecDepth 100000 in
theorem uw_698 : (Jvm.Cond.methodLink "FlotationCircuitLaw" (44 : Nat) ({ cls := "FlotationCircuit", name := "setDestination", desc := "(III)I" } : Jvm.MethodName)) ∈ UW := List.mem_filter.mpr ⟨List.mem_of_getElem? (i := 698) rfl, rfl⟩
set_option maxRecDepth 100000 in
theorem uw_699 : (Jvm.Cond.instanceMethod ({ cls := "FlotationCircuit", name := "setDestination", desc := "(III)I" } : Jvm.MethodName)) ∈ UW := List.mem_filter.mpr ⟨List.mem_of_getElem? (i := 699) rfl, rfl⟩
set_option maxRecDepth 100000 in
theorem uw_700 : (Jvm.Cond.selects "FlotationCircuit" ({ cls := "FlotationCircuit", name := "setDestination", desc := "(III)I" } : Jvm.MethodName) ({ cls := "FlotationCircuit", name := "setDestination", desc := "(III)I" } : Jvm.MethodName)) ∈ UW := List.mem_filter.mpr ⟨List.mem_of_getElem? (i := 700) rfl, rfl⟩
set_option maxRecDepth 100000 in
theorem uw_701 : (Jvm.Cond.code ({ cls := "FlotationCircuit", name := "setDestination", desc := "(III)I" } : Jvm.MethodName) prog_1_method_14_code (5 : Nat) (Option.some Jvm.ClassFile.FieldType.int)) ∈ UW := List.mem_filter.mpr ⟨List.mem_of_getElem? (i := 701) rfl, rfl⟩
set_option maxRecDepth 100000 in
theorem uw_702 : (Jvm.Cond.methodLink "FlotationCircuit" (165 : Nat) ({ cls := "FlotationCircuit$State", name := "putRoute", desc := "(III)V" } : Jvm.MethodName)) ∈ UW := List.mem_filter.mpr ⟨List.mem_of_getElem? (i := 702) rfl, rfl⟩
set_option maxRecDepth 100000 in
theorem uw_703 : (Jvm.Cond.methodLink "FlotationCircuitLaw" (155 : Nat) ({ cls := "FlotationCircuitLaw", name := "setFeed", desc := "(LFlotationCircuit;III[J)I" } : Jvm.MethodName)) ∈ UW := List.mem_filter.mpr ⟨List.mem_of_getElem? (i := 703) rfl, rfl⟩
set_option maxRecDepth 100000 in
theorem uw_704 : (Jvm.Cond.static ({ cls := "FlotationCircuitLaw", name := "setFeed", desc := "(LFlotationCircuit;III[J)I" } : Jvm.MethodName)) ∈ UW := List.mem_filter.mpr ⟨List.mem_of_getElem? (i := 704) rfl, rfl⟩
set_option maxRecDepth 100000 in
theorem uw_705 : (Jvm.Cond.codeWith ({ cls := "FlotationCircuitLaw", name := "setFeed", desc := "(LFlotationCircuit;III[J)I" } : Jvm.MethodName) method_12_code (6 : Nat) (Option.some Jvm.ClassFile.FieldType.int) [((0 : Nat), (12 : Nat), (15 : Nat), (13 : Nat))]) ∈ UW := List.mem_filter.mpr ⟨List.mem_of_getElem? (i := 705) rfl, rfl⟩
set_option maxRecDepth 100000 in
theorem uw_706 : (Jvm.Cond.methodLink "FlotationCircuitLaw" (47 : Nat) ({ cls := "FlotationCircuit", name := "setFeed", desc := "(III)I" } : Jvm.MethodName)) ∈ UW := List.mem_filter.mpr ⟨List.mem_of_getElem? (i := 706) rfl, rfl⟩
set_option maxRecDepth 100000 in
theorem uw_707 : (Jvm.Cond.instanceMethod ({ cls := "FlotationCircuit", name := "setFeed", desc := "(III)I" } : Jvm.MethodName)) ∈ UW := List.mem_filter.mpr ⟨List.mem_of_getElem? (i := 707) rfl, rfl⟩
set_option maxRecDepth 100000 in
theorem uw_708 : (Jvm.Cond.selects "FlotationCircuit" ({ cls := "FlotationCircuit", name := "setFeed", desc := "(III)I" } : Jvm.MethodName) ({ cls := "FlotationCircuit", name := "setFeed", desc := "(III)I" } : Jvm.MethodName)) ∈ UW := List.mem_filter.mpr ⟨List.mem_of_getElem? (i := 708) rfl, rfl⟩
set_option maxRecDepth 100000 in
theorem uw_709 : (Jvm.Cond.code ({ cls := "FlotationCircuit", name := "setFeed", desc := "(III)I" } : Jvm.MethodName) prog_1_method_15_code (5 : Nat) (Option.some Jvm.ClassFile.FieldType.int)) ∈ UW := List.mem_filter.mpr ⟨List.mem_of_getElem? (i := 709) rfl, rfl⟩
set_option maxRecDepth 100000 in
theorem uw_710 : (Jvm.Cond.methodLink "FlotationCircuit" (168 : Nat) ({ cls := "FlotationCircuit$State", name := "putFeed", desc := "(III)V" } : Jvm.MethodName)) ∈ UW := List.mem_filter.mpr ⟨List.mem_of_getElem? (i := 710) rfl, rfl⟩
set_option maxRecDepth 100000 in
theorem uw_711 : (Jvm.Cond.methodLink "FlotationCircuitLaw" (158 : Nat) ({ cls := "FlotationCircuitLaw", name := "step", desc := "(LFlotationCircuit;I[J)I" } : Jvm.MethodName)) ∈ UW := List.mem_filter.mpr ⟨List.mem_of_getElem? (i := 711) rfl, rfl⟩
set_option maxRecDepth 100000 in
theorem uw_712 : (Jvm.Cond.static ({ cls := "FlotationCircuitLaw", name := "step", desc := "(LFlotationCircuit;I[J)I" } : Jvm.MethodName)) ∈ UW := List.mem_filter.mpr ⟨List.mem_of_getElem? (i := 712) rfl, rfl⟩
set_option maxRecDepth 100000 in
theorem uw_713 : (Jvm.Cond.codeWith ({ cls := "FlotationCircuitLaw", name := "step", desc := "(LFlotationCircuit;I[J)I" } : Jvm.MethodName) method_13_code (4 : Nat) (Option.some Jvm.ClassFile.FieldType.int) [((0 : Nat), (9 : Nat), (12 : Nat), (13 : Nat))]) ∈ UW := List.mem_filter.mpr ⟨List.mem_of_getElem? (i := 713) rfl, rfl⟩
set_option maxRecDepth 100000 in
theorem uw_714 : (Jvm.Cond.methodLink "FlotationCircuitLaw" (50 : Nat) ({ cls := "FlotationCircuit", name := "step", desc := "(I)I" } : Jvm.MethodName)) ∈ UW := List.mem_filter.mpr ⟨List.mem_of_getElem? (i := 714) rfl, rfl⟩
set_option maxRecDepth 100000 in
theorem uw_715 : (Jvm.Cond.instanceMethod ({ cls := "FlotationCircuit", name := "step", desc := "(I)I" } : Jvm.MethodName)) ∈ UW := List.mem_filter.mpr ⟨List.mem_of_getElem? (i := 715) rfl, rfl⟩
set_option maxRecDepth 100000 in
theorem uw_716 : (Jvm.Cond.selects "FlotationCircuit" ({ cls := "FlotationCircuit", name := "step", desc := "(I)I" } : Jvm.MethodName) ({ cls := "FlotationCircuit", name := "step", desc := "(I)I" } : Jvm.MethodName)) ∈ UW := List.mem_filter.mpr ⟨List.mem_of_getElem? (i := 716) rfl, rfl⟩
set_option maxRecDepth 100000 in
theorem uw_717 : (Jvm.Cond.code ({ cls := "FlotationCircuit", name := "step", desc := "(I)I" } : Jvm.MethodName) prog_1_method_16_code (3 : Nat) (Option.some Jvm.ClassFile.FieldType.int)) ∈ UW := List.mem_filter.mpr ⟨List.mem_of_getElem? (i := 717) rfl, rfl⟩
set_option maxRecDepth 100000 in
theorem uw_718 : (Jvm.Cond.methodLink "FlotationCircuit" (171 : Nat) ({ cls := "FlotationCircuit$Simulation", name := "advance", desc := "(LFlotationCircuit$State;)V" } : Jvm.MethodName)) ∈ UW := List.mem_filter.mpr ⟨List.mem_of_getElem? (i := 718) rfl, rfl⟩
set_option maxRecDepth 100000 in
theorem uw_719 : (Jvm.Cond.instanceMethod ({ cls := "FlotationCircuit$Simulation", name := "advance", desc := "(LFlotationCircuit$State;)V" } : Jvm.MethodName)) ∈ UW := List.mem_filter.mpr ⟨List.mem_of_getElem? (i := 719) rfl, rfl⟩
set_option maxRecDepth 100000 in
theorem uw_720 : (Jvm.Cond.selects "FlotationCircuit$Simulation" ({ cls := "FlotationCircuit$Simulation", name := "advance", desc := "(LFlotationCircuit$State;)V" } : Jvm.MethodName) ({ cls := "FlotationCircuit$Simulation", name := "advance", desc := "(LFlotationCircuit$State;)V" } : Jvm.MethodName)) ∈ UW := List.mem_filter.mpr ⟨List.mem_of_getElem? (i := 720) rfl, rfl⟩
set_option maxRecDepth 100000 in
theorem uw_721 : (Jvm.Cond.code ({ cls := "FlotationCircuit$Simulation", name := "advance", desc := "(LFlotationCircuit$State;)V" } : Jvm.MethodName) prog_8_method_2_code (2 : Nat) (Option.none : Option Jvm.ClassFile.FieldType)) ∈ UW := List.mem_filter.mpr ⟨List.mem_of_getElem? (i := 721) rfl, rfl⟩
set_option maxRecDepth 100000 in
theorem uw_722 : (Jvm.Cond.methodLink "FlotationCircuit$Simulation" (15 : Nat) ({ cls := "FlotationCircuit$Simulation", name := "moveComponent", desc := "(LFlotationCircuit$State;I)V" } : Jvm.MethodName)) ∈ UW := List.mem_filter.mpr ⟨List.mem_of_getElem? (i := 722) rfl, rfl⟩
set_option maxRecDepth 100000 in
theorem uw_724 : (Jvm.Cond.instanceMethod ({ cls := "FlotationCircuit$Simulation", name := "moveComponent", desc := "(LFlotationCircuit$State;I)V" } : Jvm.MethodName)) ∈ UW := List.mem_filter.mpr ⟨List.mem_of_getElem? (i := 724) rfl, rfl⟩
set_option maxRecDepth 100000 in
theorem uw_725 : (Jvm.Cond.code ({ cls := "FlotationCircuit$Simulation", name := "moveComponent", desc := "(LFlotationCircuit$State;I)V" } : Jvm.MethodName) prog_8_method_3_code (6 : Nat) (Option.none : Option Jvm.ClassFile.FieldType)) ∈ UW := List.mem_filter.mpr ⟨List.mem_of_getElem? (i := 725) rfl, rfl⟩
set_option maxRecDepth 100000 in
theorem uw_726 : (Jvm.Cond.methodLink "FlotationCircuit$Simulation" (19 : Nat) ({ cls := "java/util/Arrays", name := "fill", desc := "([II)V" } : Jvm.MethodName)) ∈ UW := List.mem_filter.mpr ⟨List.mem_of_getElem? (i := 726) rfl, rfl⟩
set_option maxRecDepth 100000 in
theorem uw_727 : (Jvm.Cond.methodLink "FlotationCircuit$Simulation" (25 : Nat) ({ cls := "FlotationCircuit$State", name := "feedTarget", desc := "()I" } : Jvm.MethodName)) ∈ UW := List.mem_filter.mpr ⟨List.mem_of_getElem? (i := 727) rfl, rfl⟩
set_option maxRecDepth 100000 in
theorem uw_728 : (Jvm.Cond.methodLink "FlotationCircuit$Simulation" (31 : Nat) ({ cls := "FlotationCircuit$State", name := "feed", desc := "(I)I" } : Jvm.MethodName)) ∈ UW := List.mem_filter.mpr ⟨List.mem_of_getElem? (i := 728) rfl, rfl⟩
set_option maxRecDepth 100000 in
theorem uw_729 : (Jvm.Cond.methodLink "FlotationCircuit$Simulation" (35 : Nat) ({ cls := "FlotationCircuit$State", name := "count", desc := "()I" } : Jvm.MethodName)) ∈ UW := List.mem_filter.mpr ⟨List.mem_of_getElem? (i := 729) rfl, rfl⟩
set_option maxRecDepth 100000 in
theorem uw_730 : (Jvm.Cond.methodLink "FlotationCircuit$Simulation" (38 : Nat) ({ cls := "FlotationCircuit$State", name := "held", desc := "(II)I" } : Jvm.MethodName)) ∈ UW := List.mem_filter.mpr ⟨List.mem_of_getElem? (i := 730) rfl, rfl⟩
set_option maxRecDepth 100000 in
theorem uw_731 : (Jvm.Cond.methodLink "FlotationCircuit$Simulation" (42 : Nat) ({ cls := "FlotationCircuit$State", name := "percent", desc := "(II)I" } : Jvm.MethodName)) ∈ UW := List.mem_filter.mpr ⟨List.mem_of_getElem? (i := 731) rfl, rfl⟩
set_option maxRecDepth 100000 in
theorem uw_732 : (Jvm.Cond.constantLong "FlotationCircuit$Simulation" (45 : Nat) (100 : Int64)) ∈ UW := List.mem_filter.mpr ⟨List.mem_of_getElem? (i := 732) rfl, rfl⟩
set_option maxRecDepth 100000 in
theorem uw_733 : (Jvm.Cond.methodLink "FlotationCircuit$Simulation" (47 : Nat) ({ cls := "FlotationCircuit$State", name := "target", desc := "(II)I" } : Jvm.MethodName)) ∈ UW := List.mem_filter.mpr ⟨List.mem_of_getElem? (i := 733) rfl, rfl⟩
set_option maxRecDepth 100000 in
theorem uw_734 : (Jvm.Cond.methodLink "FlotationCircuit$Simulation" (50 : Nat) ({ cls := "FlotationCircuit$State", name := "putHeld", desc := "(III)V" } : Jvm.MethodName)) ∈ UW := List.mem_filter.mpr ⟨List.mem_of_getElem? (i := 734) rfl, rfl⟩
set_option maxRecDepth 100000 in
theorem uw_735 : (Jvm.Cond.methodLink "FlotationCircuit$Simulation" (54 : Nat) ({ cls := "FlotationCircuit$State", name := "collect", desc := "(III)V" } : Jvm.MethodName)) ∈ UW := List.mem_filter.mpr ⟨List.mem_of_getElem? (i := 735) rfl, rfl⟩
set_option maxRecDepth 100000 in
theorem uw_736 : (Jvm.Cond.instanceMethod ({ cls := "FlotationCircuit$State", name := "collect", desc := "(III)V" } : Jvm.MethodName)) ∈ UW := List.mem_filter.mpr ⟨List.mem_of_getElem? (i := 736) rfl, rfl⟩
set_option maxRecDepth 100000 in
theorem uw_737 : (Jvm.Cond.selects "FlotationCircuit$State" ({ cls := "FlotationCircuit$State", name := "collect", desc := "(III)V" } : Jvm.MethodName) ({ cls := "FlotationCircuit$State", name := "collect", desc := "(III)V" } : Jvm.MethodName)) ∈ UW := List.mem_filter.mpr ⟨List.mem_of_getElem? (i := 737) rfl, rfl⟩
set_option maxRecDepth 100000 in
theorem uw_738 : (Jvm.Cond.code ({ cls := "FlotationCircuit$State", name := "collect", desc := "(III)V" } : Jvm.MethodName) prog_9_method_18_code (4 : Nat) (Option.none : Option Jvm.ClassFile.FieldType)) ∈ UW := List.mem_filter.mpr ⟨List.mem_of_getElem? (i := 738) rfl, rfl⟩
set_option maxRecDepth 100000 in
theorem uw_739 : (Jvm.Cond.methodLink "FlotationCircuit" (174 : Nat) ({ cls := "FlotationCircuit$State", name := "collected", desc := "(II)I" } : Jvm.MethodName)) ∈ UW := List.mem_filter.mpr ⟨List.mem_of_getElem? (i := 739) rfl, rfl⟩
set_option maxRecDepth 100000 in
theorem uw_740 : (Jvm.Cond.instanceMethod ({ cls := "FlotationCircuit$State", name := "collected", desc := "(II)I" } : Jvm.MethodName)) ∈ UW := List.mem_filter.mpr ⟨List.mem_of_getElem? (i := 740) rfl, rfl⟩
set_option maxRecDepth 100000 in
theorem uw_741 : (Jvm.Cond.selects "FlotationCircuit$State" ({ cls := "FlotationCircuit$State", name := "collected", desc := "(II)I" } : Jvm.MethodName) ({ cls := "FlotationCircuit$State", name := "collected", desc := "(II)I" } : Jvm.MethodName)) ∈ UW := List.mem_filter.mpr ⟨List.mem_of_getElem? (i := 741) rfl, rfl⟩
set_option maxRecDepth 100000 in
theorem uw_742 : (Jvm.Cond.code ({ cls := "FlotationCircuit$State", name := "collected", desc := "(II)I" } : Jvm.MethodName) prog_9_method_17_code (3 : Nat) (Option.some Jvm.ClassFile.FieldType.int)) ∈ UW := List.mem_filter.mpr ⟨List.mem_of_getElem? (i := 742) rfl, rfl⟩
set_option maxRecDepth 100000 in
theorem uw_743 : (Jvm.Cond.methodLink "FlotationCircuitLaw" (165 : Nat) ({ cls := "FlotationCircuitLaw", name := "undo", desc := "(LFlotationCircuit;[J)I" } : Jvm.MethodName)) ∈ UW := List.mem_filter.mpr ⟨List.mem_of_getElem? (i := 743) rfl, rfl⟩
set_option maxRecDepth 100000 in
theorem uw_744 : (Jvm.Cond.static ({ cls := "FlotationCircuitLaw", name := "undo", desc := "(LFlotationCircuit;[J)I" } : Jvm.MethodName)) ∈ UW := List.mem_filter.mpr ⟨List.mem_of_getElem? (i := 744) rfl, rfl⟩
set_option maxRecDepth 100000 in
theorem uw_745 : (Jvm.Cond.codeWith ({ cls := "FlotationCircuitLaw", name := "undo", desc := "(LFlotationCircuit;[J)I" } : Jvm.MethodName) method_14_code (3 : Nat) (Option.some Jvm.ClassFile.FieldType.int) [((0 : Nat), (8 : Nat), (11 : Nat), (15 : Nat))]) ∈ UW := List.mem_filter.mpr ⟨List.mem_of_getElem? (i := 745) rfl, rfl⟩
set_option maxRecDepth 100000 in
theorem uw_746 : (Jvm.Cond.methodLink "FlotationCircuitLaw" (53 : Nat) ({ cls := "FlotationCircuit", name := "undo", desc := "()I" } : Jvm.MethodName)) ∈ UW := List.mem_filter.mpr ⟨List.mem_of_getElem? (i := 746) rfl, rfl⟩
set_option maxRecDepth 100000 in
theorem uw_747 : (Jvm.Cond.instanceMethod ({ cls := "FlotationCircuit", name := "undo", desc := "()I" } : Jvm.MethodName)) ∈ UW := List.mem_filter.mpr ⟨List.mem_of_getElem? (i := 747) rfl, rfl⟩
set_option maxRecDepth 100000 in
theorem uw_748 : (Jvm.Cond.selects "FlotationCircuit" ({ cls := "FlotationCircuit", name := "undo", desc := "()I" } : Jvm.MethodName) ({ cls := "FlotationCircuit", name := "undo", desc := "()I" } : Jvm.MethodName)) ∈ UW := List.mem_filter.mpr ⟨List.mem_of_getElem? (i := 748) rfl, rfl⟩
set_option maxRecDepth 100000 in
theorem uw_749 : (Jvm.Cond.code ({ cls := "FlotationCircuit", name := "undo", desc := "()I" } : Jvm.MethodName) prog_1_method_18_code (1 : Nat) (Option.some Jvm.ClassFile.FieldType.int)) ∈ UW := List.mem_filter.mpr ⟨List.mem_of_getElem? (i := 749) rfl, rfl⟩
set_option maxRecDepth 100000 in
theorem uw_750 : (Jvm.Cond.methodLink "FlotationCircuit" (183 : Nat) ({ cls := "FlotationCircuit$History", name := "size", desc := "()I" } : Jvm.MethodName)) ∈ UW := List.mem_filter.mpr ⟨List.mem_of_getElem? (i := 750) rfl, rfl⟩
set_option maxRecDepth 100000 in
theorem uw_751 : (Jvm.Cond.instanceMethod ({ cls := "FlotationCircuit$History", name := "size", desc := "()I" } : Jvm.MethodName)) ∈ UW := List.mem_filter.mpr ⟨List.mem_of_getElem? (i := 751) rfl, rfl⟩
set_option maxRecDepth 100000 in
theorem uw_752 : (Jvm.Cond.selects "FlotationCircuit$History" ({ cls := "FlotationCircuit$History", name := "size", desc := "()I" } : Jvm.MethodName) ({ cls := "FlotationCircuit$History", name := "size", desc := "()I" } : Jvm.MethodName)) ∈ UW := List.mem_filter.mpr ⟨List.mem_of_getElem? (i := 752) rfl, rfl⟩
set_option maxRecDepth 100000 in
theorem uw_753 : (Jvm.Cond.code ({ cls := "FlotationCircuit$History", name := "size", desc := "()I" } : Jvm.MethodName) prog_4_method_2_code (1 : Nat) (Option.some Jvm.ClassFile.FieldType.int)) ∈ UW := List.mem_filter.mpr ⟨List.mem_of_getElem? (i := 753) rfl, rfl⟩
set_option maxRecDepth 100000 in
theorem tw_754 : (Jvm.Cond.stringRef "FlotationCircuit" (186 : Nat) "no state is remembered") ∈ lw_tbl := List.mem_of_getElem? (i := 754) rfl
set_option maxRecDepth 100000 in
theorem uw_755 : (Jvm.Cond.methodLink "FlotationCircuit" (188 : Nat) ({ cls := "FlotationCircuit$History", name := "takeBack", desc := "(LFlotationCircuit$State;)V" } : Jvm.MethodName)) ∈ UW := List.mem_filter.mpr ⟨List.mem_of_getElem? (i := 755) rfl, rfl⟩
set_option maxRecDepth 100000 in
theorem uw_756 : (Jvm.Cond.instanceMethod ({ cls := "FlotationCircuit$History", name := "takeBack", desc := "(LFlotationCircuit$State;)V" } : Jvm.MethodName)) ∈ UW := List.mem_filter.mpr ⟨List.mem_of_getElem? (i := 756) rfl, rfl⟩
set_option maxRecDepth 100000 in
theorem uw_757 : (Jvm.Cond.selects "FlotationCircuit$History" ({ cls := "FlotationCircuit$History", name := "takeBack", desc := "(LFlotationCircuit$State;)V" } : Jvm.MethodName) ({ cls := "FlotationCircuit$History", name := "takeBack", desc := "(LFlotationCircuit$State;)V" } : Jvm.MethodName)) ∈ UW := List.mem_filter.mpr ⟨List.mem_of_getElem? (i := 757) rfl, rfl⟩
set_option maxRecDepth 100000 in
theorem uw_758 : (Jvm.Cond.code ({ cls := "FlotationCircuit$History", name := "takeBack", desc := "(LFlotationCircuit$State;)V" } : Jvm.MethodName) prog_4_method_4_code (2 : Nat) (Option.none : Option Jvm.ClassFile.FieldType)) ∈ UW := List.mem_filter.mpr ⟨List.mem_of_getElem? (i := 758) rfl, rfl⟩
set_option maxRecDepth 100000 in
theorem uw_759 : (Jvm.Cond.methodLink "FlotationCircuit$History" (37 : Nat) ({ cls := "FlotationCircuit$StateRows", name := "fetch", desc := "(ILFlotationCircuit$State;)V" } : Jvm.MethodName)) ∈ UW := List.mem_filter.mpr ⟨List.mem_of_getElem? (i := 759) rfl, rfl⟩
set_option maxRecDepth 100000 in
theorem uw_760 : (Jvm.Cond.instanceMethod ({ cls := "FlotationCircuit$StateRows", name := "fetch", desc := "(ILFlotationCircuit$State;)V" } : Jvm.MethodName)) ∈ UW := List.mem_filter.mpr ⟨List.mem_of_getElem? (i := 760) rfl, rfl⟩
set_option maxRecDepth 100000 in
theorem uw_761 : (Jvm.Cond.selects "FlotationCircuit$StateRows" ({ cls := "FlotationCircuit$StateRows", name := "fetch", desc := "(ILFlotationCircuit$State;)V" } : Jvm.MethodName) ({ cls := "FlotationCircuit$StateRows", name := "fetch", desc := "(ILFlotationCircuit$State;)V" } : Jvm.MethodName)) ∈ UW := List.mem_filter.mpr ⟨List.mem_of_getElem? (i := 761) rfl, rfl⟩
set_option maxRecDepth 100000 in
theorem uw_762 : (Jvm.Cond.code ({ cls := "FlotationCircuit$StateRows", name := "fetch", desc := "(ILFlotationCircuit$State;)V" } : Jvm.MethodName) prog_10_method_3_code (3 : Nat) (Option.none : Option Jvm.ClassFile.FieldType)) ∈ UW := List.mem_filter.mpr ⟨List.mem_of_getElem? (i := 762) rfl, rfl⟩
set_option maxRecDepth 100000 in
theorem uw_763 : (Jvm.Cond.methodLink "FlotationCircuitLaw" (168 : Nat) ({ cls := "FlotationCircuitLaw", name := "content", desc := "(LFlotationCircuit;II[J)I" } : Jvm.MethodName)) ∈ UW := List.mem_filter.mpr ⟨List.mem_of_getElem? (i := 763) rfl, rfl⟩
set_option maxRecDepth 100000 in
theorem uw_764 : (Jvm.Cond.static ({ cls := "FlotationCircuitLaw", name := "content", desc := "(LFlotationCircuit;II[J)I" } : Jvm.MethodName)) ∈ UW := List.mem_filter.mpr ⟨List.mem_of_getElem? (i := 764) rfl, rfl⟩
set_option maxRecDepth 100000 in
theorem uw_765 : (Jvm.Cond.codeWith ({ cls := "FlotationCircuitLaw", name := "content", desc := "(LFlotationCircuit;II[J)I" } : Jvm.MethodName) method_15_code (5 : Nat) (Option.some Jvm.ClassFile.FieldType.int) [((0 : Nat), (10 : Nat), (13 : Nat), (25 : Nat))]) ∈ UW := List.mem_filter.mpr ⟨List.mem_of_getElem? (i := 765) rfl, rfl⟩
set_option maxRecDepth 100000 in
theorem uw_766 : (Jvm.Cond.methodLink "FlotationCircuitLaw" (56 : Nat) ({ cls := "FlotationCircuit", name := "content", desc := "(II)I" } : Jvm.MethodName)) ∈ UW := List.mem_filter.mpr ⟨List.mem_of_getElem? (i := 766) rfl, rfl⟩
set_option maxRecDepth 100000 in
theorem uw_767 : (Jvm.Cond.instanceMethod ({ cls := "FlotationCircuit", name := "content", desc := "(II)I" } : Jvm.MethodName)) ∈ UW := List.mem_filter.mpr ⟨List.mem_of_getElem? (i := 767) rfl, rfl⟩
set_option maxRecDepth 100000 in
theorem uw_768 : (Jvm.Cond.selects "FlotationCircuit" ({ cls := "FlotationCircuit", name := "content", desc := "(II)I" } : Jvm.MethodName) ({ cls := "FlotationCircuit", name := "content", desc := "(II)I" } : Jvm.MethodName)) ∈ UW := List.mem_filter.mpr ⟨List.mem_of_getElem? (i := 768) rfl, rfl⟩
set_option maxRecDepth 100000 in
theorem uw_769 : (Jvm.Cond.code ({ cls := "FlotationCircuit", name := "content", desc := "(II)I" } : Jvm.MethodName) prog_1_method_19_code (3 : Nat) (Option.some Jvm.ClassFile.FieldType.int)) ∈ UW := List.mem_filter.mpr ⟨List.mem_of_getElem? (i := 769) rfl, rfl⟩
set_option maxRecDepth 100000 in
theorem uw_770 : (Jvm.Cond.methodLink "FlotationCircuit" (191 : Nat) ({ cls := "FlotationCircuit$State", name := "held", desc := "(II)I" } : Jvm.MethodName)) ∈ UW := List.mem_filter.mpr ⟨List.mem_of_getElem? (i := 770) rfl, rfl⟩
set_option maxRecDepth 100000 in
theorem uw_771 : (Jvm.Cond.methodLink "FlotationCircuitLaw" (171 : Nat) ({ cls := "FlotationCircuitLaw", name := "amount", desc := "(LFlotationCircuit;II[J)I" } : Jvm.MethodName)) ∈ UW := List.mem_filter.mpr ⟨List.mem_of_getElem? (i := 771) rfl, rfl⟩
set_option maxRecDepth 100000 in
theorem uw_772 : (Jvm.Cond.static ({ cls := "FlotationCircuitLaw", name := "amount", desc := "(LFlotationCircuit;II[J)I" } : Jvm.MethodName)) ∈ UW := List.mem_filter.mpr ⟨List.mem_of_getElem? (i := 772) rfl, rfl⟩
set_option maxRecDepth 100000 in
theorem uw_773 : (Jvm.Cond.codeWith ({ cls := "FlotationCircuitLaw", name := "amount", desc := "(LFlotationCircuit;II[J)I" } : Jvm.MethodName) method_16_code (5 : Nat) (Option.some Jvm.ClassFile.FieldType.int) [((0 : Nat), (10 : Nat), (13 : Nat), (25 : Nat))]) ∈ UW := List.mem_filter.mpr ⟨List.mem_of_getElem? (i := 773) rfl, rfl⟩
set_option maxRecDepth 100000 in
theorem uw_774 : (Jvm.Cond.methodLink "FlotationCircuitLaw" (59 : Nat) ({ cls := "FlotationCircuit", name := "amount", desc := "(II)I" } : Jvm.MethodName)) ∈ UW := List.mem_filter.mpr ⟨List.mem_of_getElem? (i := 774) rfl, rfl⟩
set_option maxRecDepth 100000 in
theorem uw_775 : (Jvm.Cond.instanceMethod ({ cls := "FlotationCircuit", name := "amount", desc := "(II)I" } : Jvm.MethodName)) ∈ UW := List.mem_filter.mpr ⟨List.mem_of_getElem? (i := 775) rfl, rfl⟩
set_option maxRecDepth 100000 in
theorem uw_776 : (Jvm.Cond.selects "FlotationCircuit" ({ cls := "FlotationCircuit", name := "amount", desc := "(II)I" } : Jvm.MethodName) ({ cls := "FlotationCircuit", name := "amount", desc := "(II)I" } : Jvm.MethodName)) ∈ UW := List.mem_filter.mpr ⟨List.mem_of_getElem? (i := 776) rfl, rfl⟩
set_option maxRecDepth 100000 in
theorem uw_777 : (Jvm.Cond.code ({ cls := "FlotationCircuit", name := "amount", desc := "(II)I" } : Jvm.MethodName) prog_1_method_20_code (3 : Nat) (Option.some Jvm.ClassFile.FieldType.int)) ∈ UW := List.mem_filter.mpr ⟨List.mem_of_getElem? (i := 777) rfl, rfl⟩
set_option maxRecDepth 100000 in
theorem tw_778 : (Jvm.Cond.stringRef "FlotationCircuit" (200 : Nat) "no such product") ∈ lw_tbl := List.mem_of_getElem? (i := 778) rfl
set_option maxRecDepth 100000 in
theorem uw_779 : (Jvm.Cond.methodLink "FlotationCircuitLaw" (179 : Nat) ({ cls := "FlotationCircuitLaw", name := "flowNumerator", desc := "(LFlotationCircuit;II[J)I" } : Jvm.MethodName)) ∈ UW := List.mem_filter.mpr ⟨List.mem_of_getElem? (i := 779) rfl, rfl⟩
set_option maxRecDepth 100000 in
theorem uw_780 : (Jvm.Cond.static ({ cls := "FlotationCircuitLaw", name := "flowNumerator", desc := "(LFlotationCircuit;II[J)I" } : Jvm.MethodName)) ∈ UW := List.mem_filter.mpr ⟨List.mem_of_getElem? (i := 780) rfl, rfl⟩
set_option maxRecDepth 100000 in
theorem uw_781 : (Jvm.Cond.codeWith ({ cls := "FlotationCircuitLaw", name := "flowNumerator", desc := "(LFlotationCircuit;II[J)I" } : Jvm.MethodName) method_17_code (5 : Nat) (Option.some Jvm.ClassFile.FieldType.int) [((0 : Nat), (9 : Nat), (12 : Nat), (25 : Nat)), ((0 : Nat), (9 : Nat), (16 : Nat), (15 : Nat))]) ∈ UW := List.mem_filter.mpr ⟨List.mem_of_getElem? (i := 781) rfl, rfl⟩
set_option maxRecDepth 100000 in
theorem uw_782 : (Jvm.Cond.methodLink "FlotationCircuitLaw" (62 : Nat) ({ cls := "FlotationCircuit", name := "flowNumerator", desc := "(II)J" } : Jvm.MethodName)) ∈ UW := List.mem_filter.mpr ⟨List.mem_of_getElem? (i := 782) rfl, rfl⟩
set_option maxRecDepth 100000 in
theorem uw_783 : (Jvm.Cond.instanceMethod ({ cls := "FlotationCircuit", name := "flowNumerator", desc := "(II)J" } : Jvm.MethodName)) ∈ UW := List.mem_filter.mpr ⟨List.mem_of_getElem? (i := 783) rfl, rfl⟩
set_option maxRecDepth 100000 in
theorem uw_784 : (Jvm.Cond.selects "FlotationCircuit" ({ cls := "FlotationCircuit", name := "flowNumerator", desc := "(II)J" } : Jvm.MethodName) ({ cls := "FlotationCircuit", name := "flowNumerator", desc := "(II)J" } : Jvm.MethodName)) ∈ UW := List.mem_filter.mpr ⟨List.mem_of_getElem? (i := 784) rfl, rfl⟩
set_option maxRecDepth 100000 in
theorem uw_785 : (Jvm.Cond.code ({ cls := "FlotationCircuit", name := "flowNumerator", desc := "(II)J" } : Jvm.MethodName) prog_1_method_22_code (3 : Nat) (Option.some Jvm.ClassFile.FieldType.long)) ∈ UW := List.mem_filter.mpr ⟨List.mem_of_getElem? (i := 785) rfl, rfl⟩
set_option maxRecDepth 100000 in
theorem uw_786 : (Jvm.Cond.methodLink "FlotationCircuit" (210 : Nat) ({ cls := "FlotationCircuit", name := "solveFlow", desc := "(II)V" } : Jvm.MethodName)) ∈ UW := List.mem_filter.mpr ⟨List.mem_of_getElem? (i := 786) rfl, rfl⟩
set_option maxRecDepth 100000 in
theorem uw_788 : (Jvm.Cond.instanceMethod ({ cls := "FlotationCircuit", name := "solveFlow", desc := "(II)V" } : Jvm.MethodName)) ∈ UW := List.mem_filter.mpr ⟨List.mem_of_getElem? (i := 788) rfl, rfl⟩
set_option maxRecDepth 100000 in
theorem uw_789 : (Jvm.Cond.code ({ cls := "FlotationCircuit", name := "solveFlow", desc := "(II)V" } : Jvm.MethodName) prog_1_method_42_code (3 : Nat) (Option.none : Option Jvm.ClassFile.FieldType)) ∈ UW := List.mem_filter.mpr ⟨List.mem_of_getElem? (i := 789) rfl, rfl⟩
set_option maxRecDepth 100000 in
theorem tw_790 : (Jvm.Cond.stringRef "FlotationCircuit" (293 : Nat) "neither a cell nor a product") ∈ lw_tbl := List.mem_of_getElem? (i := 790) rfl
set_option maxRecDepth 100000 in
theorem uw_791 : (Jvm.Cond.methodLink "FlotationCircuit" (295 : Nat) ({ cls := "FlotationCircuit$Balance", name := "solve", desc := "(LFlotationCircuit$State;II)V" } : Jvm.MethodName)) ∈ UW := List.mem_filter.mpr ⟨List.mem_of_getElem? (i := 791) rfl, rfl⟩
set_option maxRecDepth 100000 in
theorem uw_792 : (Jvm.Cond.methodLink "FlotationCircuit" (299 : Nat) ({ cls := "FlotationCircuit$Balance", name := "isSolved", desc := "()Z" } : Jvm.MethodName)) ∈ UW := List.mem_filter.mpr ⟨List.mem_of_getElem? (i := 792) rfl, rfl⟩
set_option maxRecDepth 100000 in
theorem uw_793 : (Jvm.Cond.instanceMethod ({ cls := "FlotationCircuit$Balance", name := "isSolved", desc := "()Z" } : Jvm.MethodName)) ∈ UW := List.mem_filter.mpr ⟨List.mem_of_getElem? (i := 793) rfl, rfl⟩
set_option maxRecDepth 100000 in
theorem uw_794 : (Jvm.Cond.selects "FlotationCircuit$Balance" ({ cls := "FlotationCircuit$Balance", name := "isSolved", desc := "()Z" } : Jvm.MethodName) ({ cls := "FlotationCircuit$Balance", name := "isSolved", desc := "()Z" } : Jvm.MethodName)) ∈ UW := List.mem_filter.mpr ⟨List.mem_of_getElem? (i := 794) rfl, rfl⟩
set_option maxRecDepth 100000 in
theorem uw_795 : (Jvm.Cond.code ({ cls := "FlotationCircuit$Balance", name := "isSolved", desc := "()Z" } : Jvm.MethodName) prog_2_method_2_code (1 : Nat) (Option.some Jvm.ClassFile.FieldType.boolean)) ∈ UW := List.mem_filter.mpr ⟨List.mem_of_getElem? (i := 795) rfl, rfl⟩
set_option maxRecDepth 100000 in
theorem tw_796 : (Jvm.Cond.stringRef "FlotationCircuit" (302 : Nat) "the component has no steady state") ∈ lw_tbl := List.mem_of_getElem? (i := 796) rfl
set_option maxRecDepth 100000 in
theorem uw_797 : (Jvm.Cond.methodLink "FlotationCircuit" (214 : Nat) ({ cls := "FlotationCircuit$Balance", name := "reducedNumerator", desc := "(I)J" } : Jvm.MethodName)) ∈ UW := List.mem_filter.mpr ⟨List.mem_of_getElem? (i := 797) rfl, rfl⟩
set_option maxRecDepth 100000 in
theorem uw_798 : (Jvm.Cond.instanceMethod ({ cls := "FlotationCircuit$Balance", name := "reducedNumerator", desc := "(I)J" } : Jvm.MethodName)) ∈ UW := List.mem_filter.mpr ⟨List.mem_of_getElem? (i := 798) rfl, rfl⟩
set_option maxRecDepth 100000 in
theorem uw_799 : (Jvm.Cond.selects "FlotationCircuit$Balance" ({ cls := "FlotationCircuit$Balance", name := "reducedNumerator", desc := "(I)J" } : Jvm.MethodName) ({ cls := "FlotationCircuit$Balance", name := "reducedNumerator", desc := "(I)J" } : Jvm.MethodName)) ∈ UW := List.mem_filter.mpr ⟨List.mem_of_getElem? (i := 799) rfl, rfl⟩
set_option maxRecDepth 100000 in
theorem uw_800 : (Jvm.Cond.code ({ cls := "FlotationCircuit$Balance", name := "reducedNumerator", desc := "(I)J" } : Jvm.MethodName) prog_2_method_4_code (4 : Nat) (Option.some Jvm.ClassFile.FieldType.long)) ∈ UW := List.mem_filter.mpr ⟨List.mem_of_getElem? (i := 800) rfl, rfl⟩
set_option maxRecDepth 100000 in
theorem uw_801 : (Jvm.Cond.methodLink "FlotationCircuit$Balance" (50 : Nat) ({ cls := "FlotationCircuit$Balance", name := "commonDivisor", desc := "(JJ)J" } : Jvm.MethodName)) ∈ UW := List.mem_filter.mpr ⟨List.mem_of_getElem? (i := 801) rfl, rfl⟩
set_option maxRecDepth 100000 in
theorem uw_802 : (Jvm.Cond.static ({ cls := "FlotationCircuit$Balance", name := "commonDivisor", desc := "(JJ)J" } : Jvm.MethodName)) ∈ UW := List.mem_filter.mpr ⟨List.mem_of_getElem? (i := 802) rfl, rfl⟩
set_option maxRecDepth 100000 in
theorem uw_803 : (Jvm.Cond.code ({ cls := "FlotationCircuit$Balance", name := "commonDivisor", desc := "(JJ)J" } : Jvm.MethodName) prog_2_method_10_code (11 : Nat) (Option.some Jvm.ClassFile.FieldType.long)) ∈ UW := List.mem_filter.mpr ⟨List.mem_of_getElem? (i := 803) rfl, rfl⟩
set_option maxRecDepth 100000 in
theorem uw_804 : (Jvm.Cond.methodLink "FlotationCircuitLaw" (182 : Nat) ({ cls := "FlotationCircuitLaw", name := "flowDenominator", desc := "(LFlotationCircuit;II[J)I" } : Jvm.MethodName)) ∈ UW := List.mem_filter.mpr ⟨List.mem_of_getElem? (i := 804) rfl, rfl⟩
set_option maxRecDepth 100000 in
theorem uw_805 : (Jvm.Cond.static ({ cls := "FlotationCircuitLaw", name := "flowDenominator", desc := "(LFlotationCircuit;II[J)I" } : Jvm.MethodName)) ∈ UW := List.mem_filter.mpr ⟨List.mem_of_getElem? (i := 805) rfl, rfl⟩
set_option maxRecDepth 100000 in
theorem uw_806 : (Jvm.Cond.codeWith ({ cls := "FlotationCircuitLaw", name := "flowDenominator", desc := "(LFlotationCircuit;II[J)I" } : Jvm.MethodName) method_18_code (5 : Nat) (Option.some Jvm.ClassFile.FieldType.int) [((0 : Nat), (9 : Nat), (12 : Nat), (25 : Nat)), ((0 : Nat), (9 : Nat), (16 : Nat), (15 : Nat))]) ∈ UW := List.mem_filter.mpr ⟨List.mem_of_getElem? (i := 806) rfl, rfl⟩
set_option maxRecDepth 100000 in
theorem uw_807 : (Jvm.Cond.methodLink "FlotationCircuitLaw" (66 : Nat) ({ cls := "FlotationCircuit", name := "flowDenominator", desc := "(II)J" } : Jvm.MethodName)) ∈ UW := List.mem_filter.mpr ⟨List.mem_of_getElem? (i := 807) rfl, rfl⟩
set_option maxRecDepth 100000 in
theorem uw_808 : (Jvm.Cond.instanceMethod ({ cls := "FlotationCircuit", name := "flowDenominator", desc := "(II)J" } : Jvm.MethodName)) ∈ UW := List.mem_filter.mpr ⟨List.mem_of_getElem? (i := 808) rfl, rfl⟩
set_option maxRecDepth 100000 in
theorem uw_809 : (Jvm.Cond.selects "FlotationCircuit" ({ cls := "FlotationCircuit", name := "flowDenominator", desc := "(II)J" } : Jvm.MethodName) ({ cls := "FlotationCircuit", name := "flowDenominator", desc := "(II)J" } : Jvm.MethodName)) ∈ UW := List.mem_filter.mpr ⟨List.mem_of_getElem? (i := 809) rfl, rfl⟩
set_option maxRecDepth 100000 in
theorem uw_810 : (Jvm.Cond.code ({ cls := "FlotationCircuit", name := "flowDenominator", desc := "(II)J" } : Jvm.MethodName) prog_1_method_23_code (3 : Nat) (Option.some Jvm.ClassFile.FieldType.long)) ∈ UW := List.mem_filter.mpr ⟨List.mem_of_getElem? (i := 810) rfl, rfl⟩
set_option maxRecDepth 100000 in
theorem uw_811 : (Jvm.Cond.methodLink "FlotationCircuit" (218 : Nat) ({ cls := "FlotationCircuit$Balance", name := "reducedDenominator", desc := "(I)J" } : Jvm.MethodName)) ∈ UW := List.mem_filter.mpr ⟨List.mem_of_getElem? (i := 811) rfl, rfl⟩
set_option maxRecDepth 100000 in
theorem uw_812 : (Jvm.Cond.instanceMethod ({ cls := "FlotationCircuit$Balance", name := "reducedDenominator", desc := "(I)J" } : Jvm.MethodName)) ∈ UW := List.mem_filter.mpr ⟨List.mem_of_getElem? (i := 812) rfl, rfl⟩
set_option maxRecDepth 100000 in
theorem uw_813 : (Jvm.Cond.selects "FlotationCircuit$Balance" ({ cls := "FlotationCircuit$Balance", name := "reducedDenominator", desc := "(I)J" } : Jvm.MethodName) ({ cls := "FlotationCircuit$Balance", name := "reducedDenominator", desc := "(I)J" } : Jvm.MethodName)) ∈ UW := List.mem_filter.mpr ⟨List.mem_of_getElem? (i := 813) rfl, rfl⟩
set_option maxRecDepth 100000 in
theorem uw_814 : (Jvm.Cond.code ({ cls := "FlotationCircuit$Balance", name := "reducedDenominator", desc := "(I)J" } : Jvm.MethodName) prog_2_method_5_code (4 : Nat) (Option.some Jvm.ClassFile.FieldType.long)) ∈ UW := List.mem_filter.mpr ⟨List.mem_of_getElem? (i := 814) rfl, rfl⟩
set_option maxRecDepth 100000 in
theorem uw_815 : (Jvm.Cond.methodLink "FlotationCircuitLaw" (185 : Nat) ({ cls := "FlotationCircuitLaw", name := "totalRecovery", desc := "(LFlotationCircuit;[J)I" } : Jvm.MethodName)) ∈ UW := List.mem_filter.mpr ⟨List.mem_of_getElem? (i := 815) rfl, rfl⟩
set_option maxRecDepth 100000 in
theorem uw_816 : (Jvm.Cond.static ({ cls := "FlotationCircuitLaw", name := "totalRecovery", desc := "(LFlotationCircuit;[J)I" } : Jvm.MethodName)) ∈ UW := List.mem_filter.mpr ⟨List.mem_of_getElem? (i := 816) rfl, rfl⟩
set_option maxRecDepth 100000 in
theorem uw_817 : (Jvm.Cond.codeWith ({ cls := "FlotationCircuitLaw", name := "totalRecovery", desc := "(LFlotationCircuit;[J)I" } : Jvm.MethodName) method_19_code (3 : Nat) (Option.some Jvm.ClassFile.FieldType.int) [((0 : Nat), (8 : Nat), (11 : Nat), (15 : Nat))]) ∈ UW := List.mem_filter.mpr ⟨List.mem_of_getElem? (i := 817) rfl, rfl⟩
set_option maxRecDepth 100000 in
theorem uw_818 : (Jvm.Cond.methodLink "FlotationCircuitLaw" (69 : Nat) ({ cls := "FlotationCircuit", name := "totalRecovery", desc := "()I" } : Jvm.MethodName)) ∈ UW := List.mem_filter.mpr ⟨List.mem_of_getElem? (i := 818) rfl, rfl⟩
set_option maxRecDepth 100000 in
theorem uw_819 : (Jvm.Cond.instanceMethod ({ cls := "FlotationCircuit", name := "totalRecovery", desc := "()I" } : Jvm.MethodName)) ∈ UW := List.mem_filter.mpr ⟨List.mem_of_getElem? (i := 819) rfl, rfl⟩
set_option maxRecDepth 100000 in
theorem uw_820 : (Jvm.Cond.selects "FlotationCircuit" ({ cls := "FlotationCircuit", name := "totalRecovery", desc := "()I" } : Jvm.MethodName) ({ cls := "FlotationCircuit", name := "totalRecovery", desc := "()I" } : Jvm.MethodName)) ∈ UW := List.mem_filter.mpr ⟨List.mem_of_getElem? (i := 820) rfl, rfl⟩
set_option maxRecDepth 100000 in
theorem uw_821 : (Jvm.Cond.code ({ cls := "FlotationCircuit", name := "totalRecovery", desc := "()I" } : Jvm.MethodName) prog_1_method_24_code (1 : Nat) (Option.some Jvm.ClassFile.FieldType.int)) ∈ UW := List.mem_filter.mpr ⟨List.mem_of_getElem? (i := 821) rfl, rfl⟩
set_option maxRecDepth 100000 in
theorem uw_822 : (Jvm.Cond.methodLink "FlotationCircuit" (221 : Nat) ({ cls := "FlotationCircuit", name := "requireSteadyState", desc := "()V" } : Jvm.MethodName)) ∈ UW := List.mem_filter.mpr ⟨List.mem_of_getElem? (i := 822) rfl, rfl⟩
set_option maxRecDepth 100000 in
theorem uw_824 : (Jvm.Cond.instanceMethod ({ cls := "FlotationCircuit", name := "requireSteadyState", desc := "()V" } : Jvm.MethodName)) ∈ UW := List.mem_filter.mpr ⟨List.mem_of_getElem? (i := 824) rfl, rfl⟩
set_option maxRecDepth 100000 in
theorem uw_825 : (Jvm.Cond.code ({ cls := "FlotationCircuit", name := "requireSteadyState", desc := "()V" } : Jvm.MethodName) prog_1_method_41_code (1 : Nat) (Option.none : Option Jvm.ClassFile.FieldType)) ∈ UW := List.mem_filter.mpr ⟨List.mem_of_getElem? (i := 825) rfl, rfl⟩
set_option maxRecDepth 100000 in
theorem tw_826 : (Jvm.Cond.stringRef "FlotationCircuit" (291 : Nat) "there is no steady state") ∈ lw_tbl := List.mem_of_getElem? (i := 826) rfl
set_option maxRecDepth 100000 in
theorem uw_827 : (Jvm.Cond.methodLink "FlotationCircuitLaw" (188 : Nat) ({ cls := "FlotationCircuitLaw", name := "grade", desc := "(LFlotationCircuit;[J)I" } : Jvm.MethodName)) ∈ UW := List.mem_filter.mpr ⟨List.mem_of_getElem? (i := 827) rfl, rfl⟩
set_option maxRecDepth 100000 in
theorem uw_828 : (Jvm.Cond.static ({ cls := "FlotationCircuitLaw", name := "grade", desc := "(LFlotationCircuit;[J)I" } : Jvm.MethodName)) ∈ UW := List.mem_filter.mpr ⟨List.mem_of_getElem? (i := 828) rfl, rfl⟩
set_option maxRecDepth 100000 in
theorem uw_829 : (Jvm.Cond.codeWith ({ cls := "FlotationCircuitLaw", name := "grade", desc := "(LFlotationCircuit;[J)I" } : Jvm.MethodName) method_20_code (3 : Nat) (Option.some Jvm.ClassFile.FieldType.int) [((0 : Nat), (8 : Nat), (11 : Nat), (15 : Nat))]) ∈ UW := List.mem_filter.mpr ⟨List.mem_of_getElem? (i := 829) rfl, rfl⟩
set_option maxRecDepth 100000 in
theorem uw_830 : (Jvm.Cond.methodLink "FlotationCircuitLaw" (72 : Nat) ({ cls := "FlotationCircuit", name := "grade", desc := "()I" } : Jvm.MethodName)) ∈ UW := List.mem_filter.mpr ⟨List.mem_of_getElem? (i := 830) rfl, rfl⟩
set_option maxRecDepth 100000 in
theorem uw_831 : (Jvm.Cond.instanceMethod ({ cls := "FlotationCircuit", name := "grade", desc := "()I" } : Jvm.MethodName)) ∈ UW := List.mem_filter.mpr ⟨List.mem_of_getElem? (i := 831) rfl, rfl⟩
set_option maxRecDepth 100000 in
theorem uw_832 : (Jvm.Cond.selects "FlotationCircuit" ({ cls := "FlotationCircuit", name := "grade", desc := "()I" } : Jvm.MethodName) ({ cls := "FlotationCircuit", name := "grade", desc := "()I" } : Jvm.MethodName)) ∈ UW := List.mem_filter.mpr ⟨List.mem_of_getElem? (i := 832) rfl, rfl⟩
set_option maxRecDepth 100000 in
theorem uw_833 : (Jvm.Cond.code ({ cls := "FlotationCircuit", name := "grade", desc := "()I" } : Jvm.MethodName) prog_1_method_25_code (1 : Nat) (Option.some Jvm.ClassFile.FieldType.int)) ∈ UW := List.mem_filter.mpr ⟨List.mem_of_getElem? (i := 833) rfl, rfl⟩
set_option maxRecDepth 100000 in
theorem uw_834 : (Jvm.Cond.methodLink "FlotationCircuit" (228 : Nat) ({ cls := "FlotationCircuit$Shares", name := "gradePerMille", desc := "(LFlotationCircuit$State;)I" } : Jvm.MethodName)) ∈ UW := List.mem_filter.mpr ⟨List.mem_of_getElem? (i := 834) rfl, rfl⟩
set_option maxRecDepth 100000 in
theorem uw_835 : (Jvm.Cond.instanceMethod ({ cls := "FlotationCircuit$Shares", name := "gradePerMille", desc := "(LFlotationCircuit$State;)I" } : Jvm.MethodName)) ∈ UW := List.mem_filter.mpr ⟨List.mem_of_getElem? (i := 835) rfl, rfl⟩
set_option maxRecDepth 100000 in
theorem uw_836 : (Jvm.Cond.selects "FlotationCircuit$Shares" ({ cls := "FlotationCircuit$Shares", name := "gradePerMille", desc := "(LFlotationCircuit$State;)I" } : Jvm.MethodName) ({ cls := "FlotationCircuit$Shares", name := "gradePerMille", desc := "(LFlotationCircuit$State;)I" } : Jvm.MethodName)) ∈ UW := List.mem_filter.mpr ⟨List.mem_of_getElem? (i := 836) rfl, rfl⟩
set_option maxRecDepth 100000 in
theorem uw_837 : (Jvm.Cond.code ({ cls := "FlotationCircuit$Shares", name := "gradePerMille", desc := "(LFlotationCircuit$State;)I" } : Jvm.MethodName) prog_7_method_6_code (8 : Nat) (Option.some Jvm.ClassFile.FieldType.int)) ∈ UW := List.mem_filter.mpr ⟨List.mem_of_getElem? (i := 837) rfl, rfl⟩
set_option maxRecDepth 100000 in
theorem uw_838 : (Jvm.Cond.methodLink "FlotationCircuit$Shares" (44 : Nat) ({ cls := "FlotationCircuit$Shares", name := "millionths", desc := "(IJJ)J" } : Jvm.MethodName)) ∈ UW := List.mem_filter.mpr ⟨List.mem_of_getElem? (i := 838) rfl, rfl⟩
set_option maxRecDepth 100000 in
theorem uw_839 : (Jvm.Cond.static ({ cls := "FlotationCircuit$Shares", name := "millionths", desc := "(IJJ)J" } : Jvm.MethodName)) ∈ UW := List.mem_filter.mpr ⟨List.mem_of_getElem? (i := 839) rfl, rfl⟩
set_option maxRecDepth 100000 in
theorem uw_840 : (Jvm.Cond.code ({ cls := "FlotationCircuit$Shares", name := "millionths", desc := "(IJJ)J" } : Jvm.MethodName) prog_7_method_7_code (7 : Nat) (Option.some Jvm.ClassFile.FieldType.long)) ∈ UW := List.mem_filter.mpr ⟨List.mem_of_getElem? (i := 840) rfl, rfl⟩
set_option maxRecDepth 100000 in
theorem uw_841 : (Jvm.Cond.constantLong "FlotationCircuit$Shares" (48 : Nat) (1000000 : Int64)) ∈ UW := List.mem_filter.mpr ⟨List.mem_of_getElem? (i := 841) rfl, rfl⟩
set_option maxRecDepth 100000 in
theorem uw_842 : (Jvm.Cond.methodLink "FlotationCircuitLaw" (191 : Nat) ({ cls := "FlotationCircuitLaw", name := "isInLoop", desc := "(LFlotationCircuit;I[J)I" } : Jvm.MethodName)) ∈ UW := List.mem_filter.mpr ⟨List.mem_of_getElem? (i := 842) rfl, rfl⟩
set_option maxRecDepth 100000 in
theorem uw_843 : (Jvm.Cond.static ({ cls := "FlotationCircuitLaw", name := "isInLoop", desc := "(LFlotationCircuit;I[J)I" } : Jvm.MethodName)) ∈ UW := List.mem_filter.mpr ⟨List.mem_of_getElem? (i := 843) rfl, rfl⟩
set_option maxRecDepth 100000 in
theorem uw_844 : (Jvm.Cond.codeWith ({ cls := "FlotationCircuitLaw", name := "isInLoop", desc := "(LFlotationCircuit;I[J)I" } : Jvm.MethodName) method_21_code (4 : Nat) (Option.some Jvm.ClassFile.FieldType.int) [((0 : Nat), (16 : Nat), (19 : Nat), (25 : Nat))]) ∈ UW := List.mem_filter.mpr ⟨List.mem_of_getElem? (i := 844) rfl, rfl⟩
set_option maxRecDepth 100000 in
theorem uw_845 : (Jvm.Cond.methodLink "FlotationCircuitLaw" (75 : Nat) ({ cls := "FlotationCircuit", name := "isInLoop", desc := "(I)Z" } : Jvm.MethodName)) ∈ UW := List.mem_filter.mpr ⟨List.mem_of_getElem? (i := 845) rfl, rfl⟩
set_option maxRecDepth 100000 in
theorem uw_846 : (Jvm.Cond.instanceMethod ({ cls := "FlotationCircuit", name := "isInLoop", desc := "(I)Z" } : Jvm.MethodName)) ∈ UW := List.mem_filter.mpr ⟨List.mem_of_getElem? (i := 846) rfl, rfl⟩
set_option maxRecDepth 100000 in
theorem uw_847 : (Jvm.Cond.selects "FlotationCircuit" ({ cls := "FlotationCircuit", name := "isInLoop", desc := "(I)Z" } : Jvm.MethodName) ({ cls := "FlotationCircuit", name := "isInLoop", desc := "(I)Z" } : Jvm.MethodName)) ∈ UW := List.mem_filter.mpr ⟨List.mem_of_getElem? (i := 847) rfl, rfl⟩
set_option maxRecDepth 100000 in
theorem uw_848 : (Jvm.Cond.code ({ cls := "FlotationCircuit", name := "isInLoop", desc := "(I)Z" } : Jvm.MethodName) prog_1_method_26_code (2 : Nat) (Option.some Jvm.ClassFile.FieldType.boolean)) ∈ UW := List.mem_filter.mpr ⟨List.mem_of_getElem? (i := 848) rfl, rfl⟩
set_option maxRecDepth 100000 in
theorem uw_849 : (Jvm.Cond.methodLink "FlotationCircuit" (234 : Nat) ({ cls := "FlotationCircuit$Loops", name := "returnsTo", desc := "(I)Z" } : Jvm.MethodName)) ∈ UW := List.mem_filter.mpr ⟨List.mem_of_getElem? (i := 849) rfl, rfl⟩
set_option maxRecDepth 100000 in
theorem uw_850 : (Jvm.Cond.methodLink "FlotationCircuitLaw" (206 : Nat) ({ cls := "FlotationCircuitLaw", name := "recoveryFor", desc := "(LFlotationCircuit;II[J)I" } : Jvm.MethodName)) ∈ UW := List.mem_filter.mpr ⟨List.mem_of_getElem? (i := 850) rfl, rfl⟩
set_option maxRecDepth 100000 in
theorem uw_851 : (Jvm.Cond.static ({ cls := "FlotationCircuitLaw", name := "recoveryFor", desc := "(LFlotationCircuit;II[J)I" } : Jvm.MethodName)) ∈ UW := List.mem_filter.mpr ⟨List.mem_of_getElem? (i := 851) rfl, rfl⟩
set_option maxRecDepth 100000 in
theorem uw_852 : (Jvm.Cond.codeWith ({ cls := "FlotationCircuitLaw", name := "recoveryFor", desc := "(LFlotationCircuit;II[J)I" } : Jvm.MethodName) method_22_code (5 : Nat) (Option.some Jvm.ClassFile.FieldType.int) [((0 : Nat), (10 : Nat), (13 : Nat), (25 : Nat)), ((0 : Nat), (10 : Nat), (17 : Nat), (13 : Nat))]) ∈ UW := List.mem_filter.mpr ⟨List.mem_of_getElem? (i := 852) rfl, rfl⟩
set_option maxRecDepth 100000 in
theorem uw_853 : (Jvm.Cond.methodLink "FlotationCircuitLaw" (79 : Nat) ({ cls := "FlotationCircuit", name := "recoveryFor", desc := "(II)I" } : Jvm.MethodName)) ∈ UW := List.mem_filter.mpr ⟨List.mem_of_getElem? (i := 853) rfl, rfl⟩
set_option maxRecDepth 100000 in
theorem uw_854 : (Jvm.Cond.instanceMethod ({ cls := "FlotationCircuit", name := "recoveryFor", desc := "(II)I" } : Jvm.MethodName)) ∈ UW := List.mem_filter.mpr ⟨List.mem_of_getElem? (i := 854) rfl, rfl⟩
set_option maxRecDepth 100000 in
theorem uw_855 : (Jvm.Cond.selects "FlotationCircuit" ({ cls := "FlotationCircuit", name := "recoveryFor", desc := "(II)I" } : Jvm.MethodName) ({ cls := "FlotationCircuit", name := "recoveryFor", desc := "(II)I" } : Jvm.MethodName)) ∈ UW := List.mem_filter.mpr ⟨List.mem_of_getElem? (i := 855) rfl, rfl⟩
set_option maxRecDepth 100000 in
theorem uw_856 : (Jvm.Cond.code ({ cls := "FlotationCircuit", name := "recoveryFor", desc := "(II)I" } : Jvm.MethodName) prog_1_method_30_code (4 : Nat) (Option.some Jvm.ClassFile.FieldType.int)) ∈ UW := List.mem_filter.mpr ⟨List.mem_of_getElem? (i := 856) rfl, rfl⟩
set_option maxRecDepth 100000 in
theorem uw_857 : (Jvm.Cond.methodLink "FlotationCircuit" (244 : Nat) ({ cls := "FlotationCircuit", name := "prepareUnknown", desc := "(II)V" } : Jvm.MethodName)) ∈ UW := List.mem_filter.mpr ⟨List.mem_of_getElem? (i := 857) rfl, rfl⟩
set_option maxRecDepth 100000 in
theorem uw_859 : (Jvm.Cond.instanceMethod ({ cls := "FlotationCircuit", name := "prepareUnknown", desc := "(II)V" } : Jvm.MethodName)) ∈ UW := List.mem_filter.mpr ⟨List.mem_of_getElem? (i := 859) rfl, rfl⟩
set_option maxRecDepth 100000 in
theorem uw_860 : (Jvm.Cond.code ({ cls := "FlotationCircuit", name := "prepareUnknown", desc := "(II)V" } : Jvm.MethodName) prog_1_method_45_code (3 : Nat) (Option.none : Option Jvm.ClassFile.FieldType)) ∈ UW := List.mem_filter.mpr ⟨List.mem_of_getElem? (i := 860) rfl, rfl⟩
set_option maxRecDepth 100000 in
theorem uw_861 : (Jvm.Cond.methodLink "FlotationCircuit" (247 : Nat) ({ cls := "FlotationCircuit$Shares", name := "extend", desc := "(LFlotationCircuit$Shares;LFlotationCircuit$Shares;I)V" } : Jvm.MethodName)) ∈ UW := List.mem_filter.mpr ⟨List.mem_of_getElem? (i := 861) rfl, rfl⟩
set_option maxRecDepth 100000 in
theorem uw_862 : (Jvm.Cond.instanceMethod ({ cls := "FlotationCircuit$Shares", name := "extend", desc := "(LFlotationCircuit$Shares;LFlotationCircuit$Shares;I)V" } : Jvm.MethodName)) ∈ UW := List.mem_filter.mpr ⟨List.mem_of_getElem? (i := 862) rfl, rfl⟩
set_option maxRecDepth 100000 in
theorem uw_863 : (Jvm.Cond.selects "FlotationCircuit$Shares" ({ cls := "FlotationCircuit$Shares", name := "extend", desc := "(LFlotationCircuit$Shares;LFlotationCircuit$Shares;I)V" } : Jvm.MethodName) ({ cls := "FlotationCircuit$Shares", name := "extend", desc := "(LFlotationCircuit$Shares;LFlotationCircuit$Shares;I)V" } : Jvm.MethodName)) ∈ UW := List.mem_filter.mpr ⟨List.mem_of_getElem? (i := 863) rfl, rfl⟩
set_option maxRecDepth 100000 in
theorem uw_864 : (Jvm.Cond.code ({ cls := "FlotationCircuit$Shares", name := "extend", desc := "(LFlotationCircuit$Shares;LFlotationCircuit$Shares;I)V" } : Jvm.MethodName) prog_7_method_3_code (4 : Nat) (Option.none : Option Jvm.ClassFile.FieldType)) ∈ UW := List.mem_filter.mpr ⟨List.mem_of_getElem? (i := 864) rfl, rfl⟩
set_option maxRecDepth 100000 in
theorem uw_865 : (Jvm.Cond.methodLink "FlotationCircuitLaw" (209 : Nat) ({ cls := "FlotationCircuitLaw", name := "measure", desc := "(LFlotationCircuit;II[J)I" } : Jvm.MethodName)) ∈ UW := List.mem_filter.mpr ⟨List.mem_of_getElem? (i := 865) rfl, rfl⟩
set_option maxRecDepth 100000 in
theorem uw_866 : (Jvm.Cond.static ({ cls := "FlotationCircuitLaw", name := "measure", desc := "(LFlotationCircuit;II[J)I" } : Jvm.MethodName)) ∈ UW := List.mem_filter.mpr ⟨List.mem_of_getElem? (i := 866) rfl, rfl⟩
set_option maxRecDepth 100000 in
theorem uw_867 : (Jvm.Cond.codeWith ({ cls := "FlotationCircuitLaw", name := "measure", desc := "(LFlotationCircuit;II[J)I" } : Jvm.MethodName) method_23_code (5 : Nat) (Option.some Jvm.ClassFile.FieldType.int) [((0 : Nat), (10 : Nat), (13 : Nat), (13 : Nat))]) ∈ UW := List.mem_filter.mpr ⟨List.mem_of_getElem? (i := 867) rfl, rfl⟩
set_option maxRecDepth 100000 in
theorem uw_868 : (Jvm.Cond.methodLink "FlotationCircuitLaw" (82 : Nat) ({ cls := "FlotationCircuit", name := "measure", desc := "(II)I" } : Jvm.MethodName)) ∈ UW := List.mem_filter.mpr ⟨List.mem_of_getElem? (i := 868) rfl, rfl⟩
set_option maxRecDepth 100000 in
theorem uw_869 : (Jvm.Cond.instanceMethod ({ cls := "FlotationCircuit", name := "measure", desc := "(II)I" } : Jvm.MethodName)) ∈ UW := List.mem_filter.mpr ⟨List.mem_of_getElem? (i := 869) rfl, rfl⟩
set_option maxRecDepth 100000 in
theorem uw_870 : (Jvm.Cond.selects "FlotationCircuit" ({ cls := "FlotationCircuit", name := "measure", desc := "(II)I" } : Jvm.MethodName) ({ cls := "FlotationCircuit", name := "measure", desc := "(II)I" } : Jvm.MethodName)) ∈ UW := List.mem_filter.mpr ⟨List.mem_of_getElem? (i := 870) rfl, rfl⟩
set_option maxRecDepth 100000 in
theorem uw_871 : (Jvm.Cond.code ({ cls := "FlotationCircuit", name := "measure", desc := "(II)I" } : Jvm.MethodName) prog_1_method_31_code (3 : Nat) (Option.some Jvm.ClassFile.FieldType.int)) ∈ UW := List.mem_filter.mpr ⟨List.mem_of_getElem? (i := 871) rfl, rfl⟩
set_option maxRecDepth 100000 in
theorem uw_872 : (Jvm.Cond.methodLink "FlotationCircuit" (251 : Nat) ({ cls := "FlotationCircuit$Measurements", name := "store", desc := "(II)I" } : Jvm.MethodName)) ∈ UW := List.mem_filter.mpr ⟨List.mem_of_getElem? (i := 872) rfl, rfl⟩
set_option maxRecDepth 100000 in
theorem uw_873 : (Jvm.Cond.instanceMethod ({ cls := "FlotationCircuit$Measurements", name := "store", desc := "(II)I" } : Jvm.MethodName)) ∈ UW := List.mem_filter.mpr ⟨List.mem_of_getElem? (i := 873) rfl, rfl⟩
set_option maxRecDepth 100000 in
theorem uw_874 : (Jvm.Cond.selects "FlotationCircuit$Measurements" ({ cls := "FlotationCircuit$Measurements", name := "store", desc := "(II)I" } : Jvm.MethodName) ({ cls := "FlotationCircuit$Measurements", name := "store", desc := "(II)I" } : Jvm.MethodName)) ∈ UW := List.mem_filter.mpr ⟨List.mem_of_getElem? (i := 874) rfl, rfl⟩
set_option maxRecDepth 100000 in
theorem uw_875 : (Jvm.Cond.code ({ cls := "FlotationCircuit$Measurements", name := "store", desc := "(II)I" } : Jvm.MethodName) prog_6_method_2_code (3 : Nat) (Option.some Jvm.ClassFile.FieldType.int)) ∈ UW := List.mem_filter.mpr ⟨List.mem_of_getElem? (i := 875) rfl, rfl⟩
set_option maxRecDepth 100000 in
theorem uw_876 : (Jvm.Cond.methodLink "FlotationCircuit$Measurements" (23 : Nat) ({ cls := "java/lang/Math", name := "min", desc := "(II)I" } : Jvm.MethodName)) ∈ UW := List.mem_filter.mpr ⟨List.mem_of_getElem? (i := 876) rfl, rfl⟩
set_option maxRecDepth 100000 in
theorem uw_877 : (Jvm.Cond.methodLink "FlotationCircuitLaw" (212 : Nat) ({ cls := "FlotationCircuitLaw", name := "possibleRecoveries", desc := "(LFlotationCircuit;II[J)I" } : Jvm.MethodName)) ∈ UW := List.mem_filter.mpr ⟨List.mem_of_getElem? (i := 877) rfl, rfl⟩
set_option maxRecDepth 100000 in
theorem uw_878 : (Jvm.Cond.static ({ cls := "FlotationCircuitLaw", name := "possibleRecoveries", desc := "(LFlotationCircuit;II[J)I" } : Jvm.MethodName)) ∈ UW := List.mem_filter.mpr ⟨List.mem_of_getElem? (i := 878) rfl, rfl⟩
set_option maxRecDepth 100000 in
theorem uw_879 : (Jvm.Cond.codeWith ({ cls := "FlotationCircuitLaw", name := "possibleRecoveries", desc := "(LFlotationCircuit;II[J)I" } : Jvm.MethodName) method_24_code (5 : Nat) (Option.some Jvm.ClassFile.FieldType.int) [((0 : Nat), (10 : Nat), (13 : Nat), (25 : Nat))]) ∈ UW := List.mem_filter.mpr ⟨List.mem_of_getElem? (i := 879) rfl, rfl⟩
set_option maxRecDepth 100000 in
theorem uw_880 : (Jvm.Cond.methodLink "FlotationCircuitLaw" (85 : Nat) ({ cls := "FlotationCircuit", name := "possibleRecoveries", desc := "(II)I" } : Jvm.MethodName)) ∈ UW := List.mem_filter.mpr ⟨List.mem_of_getElem? (i := 880) rfl, rfl⟩
set_option maxRecDepth 100000 in
theorem uw_881 : (Jvm.Cond.instanceMethod ({ cls := "FlotationCircuit", name := "possibleRecoveries", desc := "(II)I" } : Jvm.MethodName)) ∈ UW := List.mem_filter.mpr ⟨List.mem_of_getElem? (i := 881) rfl, rfl⟩
set_option maxRecDepth 100000 in
theorem uw_882 : (Jvm.Cond.selects "FlotationCircuit" ({ cls := "FlotationCircuit", name := "possibleRecoveries", desc := "(II)I" } : Jvm.MethodName) ({ cls := "FlotationCircuit", name := "possibleRecoveries", desc := "(II)I" } : Jvm.MethodName)) ∈ UW := List.mem_filter.mpr ⟨List.mem_of_getElem? (i := 882) rfl, rfl⟩
set_option maxRecDepth 100000 in
theorem uw_883 : (Jvm.Cond.code ({ cls := "FlotationCircuit", name := "possibleRecoveries", desc := "(II)I" } : Jvm.MethodName) prog_1_method_32_code (5 : Nat) (Option.some Jvm.ClassFile.FieldType.int)) ∈ UW := List.mem_filter.mpr ⟨List.mem_of_getElem? (i := 883) rfl, rfl⟩
set_option maxRecDepth 100000 in
theorem uw_884 : (Jvm.Cond.methodLink "FlotationCircuit" (254 : Nat) ({ cls := "FlotationCircuit$Measurements", name := "agree", desc := "(II)Z" } : Jvm.MethodName)) ∈ UW := List.mem_filter.mpr ⟨List.mem_of_getElem? (i := 884) rfl, rfl⟩
set_option maxRecDepth 100000 in
theorem uw_885 : (Jvm.Cond.instanceMethod ({ cls := "FlotationCircuit$Measurements", name := "agree", desc := "(II)Z" } : Jvm.MethodName)) ∈ UW := List.mem_filter.mpr ⟨List.mem_of_getElem? (i := 885) rfl, rfl⟩
set_option maxRecDepth 100000 in
theorem uw_886 : (Jvm.Cond.selects "FlotationCircuit$Measurements" ({ cls := "FlotationCircuit$Measurements", name := "agree", desc := "(II)Z" } : Jvm.MethodName) ({ cls := "FlotationCircuit$Measurements", name := "agree", desc := "(II)Z" } : Jvm.MethodName)) ∈ UW := List.mem_filter.mpr ⟨List.mem_of_getElem? (i := 886) rfl, rfl⟩
set_option maxRecDepth 100000 in
theorem uw_887 : (Jvm.Cond.code ({ cls := "FlotationCircuit$Measurements", name := "agree", desc := "(II)Z" } : Jvm.MethodName) prog_6_method_3_code (4 : Nat) (Option.some Jvm.ClassFile.FieldType.boolean)) ∈ UW := List.mem_filter.mpr ⟨List.mem_of_getElem? (i := 887) rfl, rfl⟩
set_option maxRecDepth 100000 in
theorem uw_888 : (Jvm.Cond.methodLink "FlotationCircuitLaw" (217 : Nat) ({ cls := "FlotationCircuitLaw", name := "disturb", desc := "(LFlotationCircuit;JI[J)I" } : Jvm.MethodName)) ∈ UW := List.mem_filter.mpr ⟨List.mem_of_getElem? (i := 888) rfl, rfl⟩
set_option maxRecDepth 100000 in
theorem uw_889 : (Jvm.Cond.static ({ cls := "FlotationCircuitLaw", name := "disturb", desc := "(LFlotationCircuit;JI[J)I" } : Jvm.MethodName)) ∈ UW := List.mem_filter.mpr ⟨List.mem_of_getElem? (i := 889) rfl, rfl⟩
set_option maxRecDepth 100000 in
theorem uw_890 : (Jvm.Cond.codeWith ({ cls := "FlotationCircuitLaw", name := "disturb", desc := "(LFlotationCircuit;JI[J)I" } : Jvm.MethodName) method_25_code (6 : Nat) (Option.some Jvm.ClassFile.FieldType.int) [((0 : Nat), (11 : Nat), (14 : Nat), (13 : Nat))]) ∈ UW := List.mem_filter.mpr ⟨List.mem_of_getElem? (i := 890) rfl, rfl⟩
set_option maxRecDepth 100000 in
theorem uw_891 : (Jvm.Cond.methodLink "FlotationCircuitLaw" (88 : Nat) ({ cls := "FlotationCircuit", name := "disturb", desc := "(JI)I" } : Jvm.MethodName)) ∈ UW := List.mem_filter.mpr ⟨List.mem_of_getElem? (i := 891) rfl, rfl⟩
set_option maxRecDepth 100000 in
theorem uw_892 : (Jvm.Cond.instanceMethod ({ cls := "FlotationCircuit", name := "disturb", desc := "(JI)I" } : Jvm.MethodName)) ∈ UW := List.mem_filter.mpr ⟨List.mem_of_getElem? (i := 892) rfl, rfl⟩
set_option maxRecDepth 100000 in
theorem uw_893 : (Jvm.Cond.selects "FlotationCircuit" ({ cls := "FlotationCircuit", name := "disturb", desc := "(JI)I" } : Jvm.MethodName) ({ cls := "FlotationCircuit", name := "disturb", desc := "(JI)I" } : Jvm.MethodName)) ∈ UW := List.mem_filter.mpr ⟨List.mem_of_getElem? (i := 893) rfl, rfl⟩
set_option maxRecDepth 100000 in
theorem uw_894 : (Jvm.Cond.code ({ cls := "FlotationCircuit", name := "disturb", desc := "(JI)I" } : Jvm.MethodName) prog_1_method_33_code (7 : Nat) (Option.some Jvm.ClassFile.FieldType.int)) ∈ UW := List.mem_filter.mpr ⟨List.mem_of_getElem? (i := 894) rfl, rfl⟩
set_option maxRecDepth 100000 in
theorem uw_895 : (Jvm.Cond.constantLong "FlotationCircuit" (261 : Nat) (6364136223846793005 : Int64)) ∈ UW := List.mem_filter.mpr ⟨List.mem_of_getElem? (i := 895) rfl, rfl⟩
set_option maxRecDepth 100000 in
theorem uw_896 : (Jvm.Cond.constantLong "FlotationCircuit" (263 : Nat) (1442695040888963407 : Int64)) ∈ UW := List.mem_filter.mpr ⟨List.mem_of_getElem? (i := 896) rfl, rfl⟩
set_option maxRecDepth 100000 in
theorem uw_897 : (Jvm.Cond.methodLink "FlotationCircuit" (265 : Nat) ({ cls := "FlotationCircuit", name := "disturbTrial", desc := "(I)V" } : Jvm.MethodName)) ∈ UW := List.mem_filter.mpr ⟨List.mem_of_getElem? (i := 897) rfl, rfl⟩
set_option maxRecDepth 100000 in
theorem uw_899 : (Jvm.Cond.instanceMethod ({ cls := "FlotationCircuit", name := "disturbTrial", desc := "(I)V" } : Jvm.MethodName)) ∈ UW := List.mem_filter.mpr ⟨List.mem_of_getElem? (i := 899) rfl, rfl⟩
set_option maxRecDepth 100000 in
theorem uw_900 : (Jvm.Cond.code ({ cls := "FlotationCircuit", name := "disturbTrial", desc := "(I)V" } : Jvm.MethodName) prog_1_method_46_code (3 : Nat) (Option.none : Option Jvm.ClassFile.FieldType)) ∈ UW := List.mem_filter.mpr ⟨List.mem_of_getElem? (i := 900) rfl, rfl⟩
set_option maxRecDepth 100000 in
theorem uw_901 : (Jvm.Cond.methodLink "FlotationCircuitLaw" (221 : Nat) ({ cls := "FlotationCircuitLaw", name := "save", desc := "(LFlotationCircuit;I[J)I" } : Jvm.MethodName)) ∈ UW := List.mem_filter.mpr ⟨List.mem_of_getElem? (i := 901) rfl, rfl⟩
set_option maxRecDepth 100000 in
theorem uw_902 : (Jvm.Cond.static ({ cls := "FlotationCircuitLaw", name := "save", desc := "(LFlotationCircuit;I[J)I" } : Jvm.MethodName)) ∈ UW := List.mem_filter.mpr ⟨List.mem_of_getElem? (i := 902) rfl, rfl⟩
set_option maxRecDepth 100000 in
theorem uw_903 : (Jvm.Cond.codeWith ({ cls := "FlotationCircuitLaw", name := "save", desc := "(LFlotationCircuit;I[J)I" } : Jvm.MethodName) method_26_code (4 : Nat) (Option.some Jvm.ClassFile.FieldType.int) [((0 : Nat), (9 : Nat), (12 : Nat), (25 : Nat))]) ∈ UW := List.mem_filter.mpr ⟨List.mem_of_getElem? (i := 903) rfl, rfl⟩
set_option maxRecDepth 100000 in
theorem uw_904 : (Jvm.Cond.methodLink "FlotationCircuitLaw" (92 : Nat) ({ cls := "FlotationCircuit", name := "save", desc := "(I)I" } : Jvm.MethodName)) ∈ UW := List.mem_filter.mpr ⟨List.mem_of_getElem? (i := 904) rfl, rfl⟩
set_option maxRecDepth 100000 in
theorem uw_905 : (Jvm.Cond.instanceMethod ({ cls := "FlotationCircuit", name := "save", desc := "(I)I" } : Jvm.MethodName)) ∈ UW := List.mem_filter.mpr ⟨List.mem_of_getElem? (i := 905) rfl, rfl⟩
set_option maxRecDepth 100000 in
theorem uw_906 : (Jvm.Cond.selects "FlotationCircuit" ({ cls := "FlotationCircuit", name := "save", desc := "(I)I" } : Jvm.MethodName) ({ cls := "FlotationCircuit", name := "save", desc := "(I)I" } : Jvm.MethodName)) ∈ UW := List.mem_filter.mpr ⟨List.mem_of_getElem? (i := 906) rfl, rfl⟩
set_option maxRecDepth 100000 in
theorem uw_907 : (Jvm.Cond.code ({ cls := "FlotationCircuit", name := "save", desc := "(I)I" } : Jvm.MethodName) prog_1_method_34_code (2 : Nat) (Option.some Jvm.ClassFile.FieldType.int)) ∈ UW := List.mem_filter.mpr ⟨List.mem_of_getElem? (i := 907) rfl, rfl⟩
set_option maxRecDepth 100000 in
theorem uw_908 : (Jvm.Cond.methodLink "FlotationCircuit" (268 : Nat) ({ cls := "FlotationCircuit$StateRows", name := "put", desc := "(ILFlotationCircuit$State;)V" } : Jvm.MethodName)) ∈ UW := List.mem_filter.mpr ⟨List.mem_of_getElem? (i := 908) rfl, rfl⟩
set_option maxRecDepth 100000 in
theorem uw_909 : (Jvm.Cond.methodLink "FlotationCircuitLaw" (224 : Nat) ({ cls := "FlotationCircuitLaw", name := "restore", desc := "(LFlotationCircuit;I[J)I" } : Jvm.MethodName)) ∈ UW := List.mem_filter.mpr ⟨List.mem_of_getElem? (i := 909) rfl, rfl⟩
set_option maxRecDepth 100000 in
theorem uw_910 : (Jvm.Cond.static ({ cls := "FlotationCircuitLaw", name := "restore", desc := "(LFlotationCircuit;I[J)I" } : Jvm.MethodName)) ∈ UW := List.mem_filter.mpr ⟨List.mem_of_getElem? (i := 910) rfl, rfl⟩
set_option maxRecDepth 100000 in
theorem uw_911 : (Jvm.Cond.codeWith ({ cls := "FlotationCircuitLaw", name := "restore", desc := "(LFlotationCircuit;I[J)I" } : Jvm.MethodName) method_27_code (4 : Nat) (Option.some Jvm.ClassFile.FieldType.int) [((0 : Nat), (9 : Nat), (12 : Nat), (25 : Nat)), ((0 : Nat), (9 : Nat), (15 : Nat), (15 : Nat))]) ∈ UW := List.mem_filter.mpr ⟨List.mem_of_getElem? (i := 911) rfl, rfl⟩
set_option maxRecDepth 100000 in
theorem uw_912 : (Jvm.Cond.methodLink "FlotationCircuitLaw" (95 : Nat) ({ cls := "FlotationCircuit", name := "restore", desc := "(I)I" } : Jvm.MethodName)) ∈ UW := List.mem_filter.mpr ⟨List.mem_of_getElem? (i := 912) rfl, rfl⟩
set_option maxRecDepth 100000 in
theorem uw_913 : (Jvm.Cond.instanceMethod ({ cls := "FlotationCircuit", name := "restore", desc := "(I)I" } : Jvm.MethodName)) ∈ UW := List.mem_filter.mpr ⟨List.mem_of_getElem? (i := 913) rfl, rfl⟩
set_option maxRecDepth 100000 in
theorem uw_914 : (Jvm.Cond.selects "FlotationCircuit" ({ cls := "FlotationCircuit", name := "restore", desc := "(I)I" } : Jvm.MethodName) ({ cls := "FlotationCircuit", name := "restore", desc := "(I)I" } : Jvm.MethodName)) ∈ UW := List.mem_filter.mpr ⟨List.mem_of_getElem? (i := 914) rfl, rfl⟩
set_option maxRecDepth 100000 in
theorem uw_915 : (Jvm.Cond.code ({ cls := "FlotationCircuit", name := "restore", desc := "(I)I" } : Jvm.MethodName) prog_1_method_35_code (2 : Nat) (Option.some Jvm.ClassFile.FieldType.int)) ∈ UW := List.mem_filter.mpr ⟨List.mem_of_getElem? (i := 915) rfl, rfl⟩
set_option maxRecDepth 100000 in
theorem tw_916 : (Jvm.Cond.stringRef "FlotationCircuit" (272 : Nat) "the slot is empty") ∈ lw_tbl := List.mem_of_getElem? (i := 916) rfl
set_option maxRecDepth 100000 in
theorem uw_917 : (Jvm.Cond.methodLink "FlotationCircuit" (274 : Nat) ({ cls := "FlotationCircuit$StateRows", name := "fetch", desc := "(ILFlotationCircuit$State;)V" } : Jvm.MethodName)) ∈ UW := List.mem_filter.mpr ⟨List.mem_of_getElem? (i := 917) rfl, rfl⟩
set_option maxRecDepth 100000 in
theorem uw_918 : (Jvm.Cond.classLink "FlotationCircuitLaw" (99 : Nat) "FlotationCircuitModel") ∈ UW := List.mem_filter.mpr ⟨List.mem_of_getElem? (i := 918) rfl, rfl⟩
set_option maxRecDepth 100000 in
theorem uw_919 : (Jvm.Cond.instantiable "FlotationCircuitModel" (21 : Nat)) ∈ UW := List.mem_filter.mpr ⟨List.mem_of_getElem? (i := 919) rfl, rfl⟩
set_option maxRecDepth 100000 in
theorem uw_920 : (Jvm.Cond.methodLink "FlotationCircuitLaw" (101 : Nat) ({ cls := "FlotationCircuitModel", name := "<init>", desc := "()V" } : Jvm.MethodName)) ∈ UW := List.mem_filter.mpr ⟨List.mem_of_getElem? (i := 920) rfl, rfl⟩
set_option maxRecDepth 100000 in
theorem uw_921 : (Jvm.Cond.instanceMethod ({ cls := "FlotationCircuitModel", name := "<init>", desc := "()V" } : Jvm.MethodName)) ∈ UW := List.mem_filter.mpr ⟨List.mem_of_getElem? (i := 921) rfl, rfl⟩
set_option maxRecDepth 100000 in
theorem uw_922 : (Jvm.Cond.code ({ cls := "FlotationCircuitModel", name := "<init>", desc := "()V" } : Jvm.MethodName) prog_12_method_1_code (1 : Nat) (Option.none : Option Jvm.ClassFile.FieldType)) ∈ UW := List.mem_filter.mpr ⟨List.mem_of_getElem? (i := 922) rfl, rfl⟩
set_option maxRecDepth 100000 in
theorem uw_923 : (Jvm.Cond.methodLink "FlotationCircuitModel" (1 : Nat) ({ cls := "java/lang/Object", name := "<init>", desc := "()V" } : Jvm.MethodName)) ∈ UW := List.mem_filter.mpr ⟨List.mem_of_getElem? (i := 923) rfl, rfl⟩
set_option maxRecDepth 100000 in
theorem uw_924 : (Jvm.Cond.fieldLink "FlotationCircuitModel" (51 : Nat) "FlotationCircuitModel" "refusal" "I") ∈ UW := List.mem_filter.mpr ⟨List.mem_of_getElem? (i := 924) rfl, rfl⟩
set_option maxRecDepth 100000 in
theorem uw_925 : (Jvm.Cond.fieldLink "FlotationCircuitModel" (7 : Nat) "FlotationCircuitModel" "now" "[I") ∈ UW := List.mem_filter.mpr ⟨List.mem_of_getElem? (i := 925) rfl, rfl⟩
set_option maxRecDepth 100000 in
theorem uw_926 : (Jvm.Cond.fieldLink "FlotationCircuitModel" (13 : Nat) "FlotationCircuitModel" "trial" "[I") ∈ UW := List.mem_filter.mpr ⟨List.mem_of_getElem? (i := 926) rfl, rfl⟩
set_option maxRecDepth 100000 in
theorem uw_927 : (Jvm.Cond.fieldLink "FlotationCircuitModel" (16 : Nat) "FlotationCircuitModel" "after" "[I") ∈ UW := List.mem_filter.mpr ⟨List.mem_of_getElem? (i := 927) rfl, rfl⟩
set_option maxRecDepth 100000 in
theorem uw_928 : (Jvm.Cond.fieldLink "FlotationCircuitModel" (19 : Nat) "FlotationCircuitModel" "diary" "[I") ∈ UW := List.mem_filter.mpr ⟨List.mem_of_getElem? (i := 928) rfl, rfl⟩
set_option maxRecDepth 100000 in
theorem uw_929 : (Jvm.Cond.fieldLink "FlotationCircuitModel" (68 : Nat) "FlotationCircuitModel" "acts" "I") ∈ UW := List.mem_filter.mpr ⟨List.mem_of_getElem? (i := 929) rfl, rfl⟩
set_option maxRecDepth 100000 in
theorem uw_930 : (Jvm.Cond.fieldLink "FlotationCircuitModel" (65 : Nat) "FlotationCircuitModel" "next" "I") ∈ UW := List.mem_filter.mpr ⟨List.mem_of_getElem? (i := 930) rfl, rfl⟩
set_option maxRecDepth 100000 in
theorem uw_931 : (Jvm.Cond.fieldLink "FlotationCircuitModel" (22 : Nat) "FlotationCircuitModel" "kept" "[I") ∈ UW := List.mem_filter.mpr ⟨List.mem_of_getElem? (i := 931) rfl, rfl⟩
set_option maxRecDepth 100000 in
theorem uw_932 : (Jvm.Cond.fieldLink "FlotationCircuitModel" (25 : Nat) "FlotationCircuitModel" "isKept" "[Z") ∈ UW := List.mem_filter.mpr ⟨List.mem_of_getElem? (i := 932) rfl, rfl⟩
set_option maxRecDepth 100000 in
theorem uw_933 : (Jvm.Cond.fieldLink "FlotationCircuitModel" (29 : Nat) "FlotationCircuitModel" "script" "[I") ∈ UW := List.mem_filter.mpr ⟨List.mem_of_getElem? (i := 933) rfl, rfl⟩
set_option maxRecDepth 100000 in
theorem uw_934 : (Jvm.Cond.fieldLink "FlotationCircuitModel" (73 : Nat) "FlotationCircuitModel" "scriptSize" "I") ∈ UW := List.mem_filter.mpr ⟨List.mem_of_getElem? (i := 934) rfl, rfl⟩
set_option maxRecDepth 100000 in
theorem uw_935 : (Jvm.Cond.fieldLink "FlotationCircuitModel" (80 : Nat) "FlotationCircuitModel" "spot" "I") ∈ UW := List.mem_filter.mpr ⟨List.mem_of_getElem? (i := 935) rfl, rfl⟩
set_option maxRecDepth 100000 in
theorem uw_936 : (Jvm.Cond.fieldLink "FlotationCircuitModel" (32 : Nat) "FlotationCircuitModel" "read" "[I") ∈ UW := List.mem_filter.mpr ⟨List.mem_of_getElem? (i := 936) rfl, rfl⟩
set_option maxRecDepth 100000 in
theorem uw_937 : (Jvm.Cond.fieldLink "FlotationCircuitModel" (201 : Nat) "FlotationCircuitModel" "measures" "I") ∈ UW := List.mem_filter.mpr ⟨List.mem_of_getElem? (i := 937) rfl, rfl⟩
set_option maxRecDepth 100000 in
theorem uw_938 : (Jvm.Cond.fieldLink "FlotationCircuitModel" (35 : Nat) "FlotationCircuitModel" "measureWhat" "[I") ∈ UW := List.mem_filter.mpr ⟨List.mem_of_getElem? (i := 938) rfl, rfl⟩
set_option maxRecDepth 100000 in
theorem uw_939 : (Jvm.Cond.fieldLink "FlotationCircuitModel" (38 : Nat) "FlotationCircuitModel" "measureIs" "[I") ∈ UW := List.mem_filter.mpr ⟨List.mem_of_getElem? (i := 939) rfl, rfl⟩
set_option maxRecDepth 100000 in
theorem uw_940 : (Jvm.Cond.fieldLink "FlotationCircuitModel" (41 : Nat) "FlotationCircuitModel" "matrix" "[J") ∈ UW := List.mem_filter.mpr ⟨List.mem_of_getElem? (i := 940) rfl, rfl⟩
set_option maxRecDepth 100000 in
theorem uw_941 : (Jvm.Cond.fieldLink "FlotationCircuitModel" (45 : Nat) "FlotationCircuitModel" "right" "[J") ∈ UW := List.mem_filter.mpr ⟨List.mem_of_getElem? (i := 941) rfl, rfl⟩
set_option maxRecDepth 100000 in
theorem uw_942 : (Jvm.Cond.fieldLink "FlotationCircuitModel" (48 : Nat) "FlotationCircuitModel" "minor" "[J") ∈ UW := List.mem_filter.mpr ⟨List.mem_of_getElem? (i := 942) rfl, rfl⟩
set_option maxRecDepth 100000 in
theorem uw_943 : (Jvm.Cond.fieldLink "FlotationCircuitModel" (157 : Nat) "FlotationCircuitModel" "up" "J") ∈ UW := List.mem_filter.mpr ⟨List.mem_of_getElem? (i := 943) rfl, rfl⟩
set_option maxRecDepth 100000 in
theorem uw_944 : (Jvm.Cond.fieldLink "FlotationCircuitModel" (153 : Nat) "FlotationCircuitModel" "low" "J") ∈ UW := List.mem_filter.mpr ⟨List.mem_of_getElem? (i := 944) rfl, rfl⟩
set_option maxRecDepth 100000 in
theorem uw_945 : (Jvm.Cond.lays "FlotationCircuitModel" "FlotationCircuitModel" "refusal" "I") ∈ UW := List.mem_filter.mpr ⟨List.mem_of_getElem? (i := 945) rfl, rfl⟩
set_option maxRecDepth 100000 in
theorem uw_947 : (Jvm.Cond.laysFinal "FlotationCircuitModel" "FlotationCircuitModel" "now" "[I") ∈ UW := List.mem_filter.mpr ⟨List.mem_of_getElem? (i := 947) rfl, rfl⟩
set_option maxRecDepth 100000 in
theorem uw_949 : (Jvm.Cond.laysFinal "FlotationCircuitModel" "FlotationCircuitModel" "trial" "[I") ∈ UW := List.mem_filter.mpr ⟨List.mem_of_getElem? (i := 949) rfl, rfl⟩
set_option maxRecDepth 100000 in
theorem uw_951 : (Jvm.Cond.laysFinal "FlotationCircuitModel" "FlotationCircuitModel" "after" "[I") ∈ UW := List.mem_filter.mpr ⟨List.mem_of_getElem? (i := 951) rfl, rfl⟩
set_option maxRecDepth 100000 in
theorem uw_953 : (Jvm.Cond.laysFinal "FlotationCircuitModel" "FlotationCircuitModel" "diary" "[I") ∈ UW := List.mem_filter.mpr ⟨List.mem_of_getElem? (i := 953) rfl, rfl⟩
set_option maxRecDepth 100000 in
theorem uw_955 : (Jvm.Cond.lays "FlotationCircuitModel" "FlotationCircuitModel" "acts" "I") ∈ UW := List.mem_filter.mpr ⟨List.mem_of_getElem? (i := 955) rfl, rfl⟩
set_option maxRecDepth 100000 in
theorem uw_957 : (Jvm.Cond.lays "FlotationCircuitModel" "FlotationCircuitModel" "next" "I") ∈ UW := List.mem_filter.mpr ⟨List.mem_of_getElem? (i := 957) rfl, rfl⟩
set_option maxRecDepth 100000 in
theorem uw_959 : (Jvm.Cond.laysFinal "FlotationCircuitModel" "FlotationCircuitModel" "kept" "[I") ∈ UW := List.mem_filter.mpr ⟨List.mem_of_getElem? (i := 959) rfl, rfl⟩
set_option maxRecDepth 100000 in
theorem uw_961 : (Jvm.Cond.laysFinal "FlotationCircuitModel" "FlotationCircuitModel" "isKept" "[Z") ∈ UW := List.mem_filter.mpr ⟨List.mem_of_getElem? (i := 961) rfl, rfl⟩
set_option maxRecDepth 100000 in
theorem uw_963 : (Jvm.Cond.laysFinal "FlotationCircuitModel" "FlotationCircuitModel" "script" "[I") ∈ UW := List.mem_filter.mpr ⟨List.mem_of_getElem? (i := 963) rfl, rfl⟩
set_option maxRecDepth 100000 in
theorem uw_965 : (Jvm.Cond.lays "FlotationCircuitModel" "FlotationCircuitModel" "scriptSize" "I") ∈ UW := List.mem_filter.mpr ⟨List.mem_of_getElem? (i := 965) rfl, rfl⟩
set_option maxRecDepth 100000 in
theorem uw_967 : (Jvm.Cond.lays "FlotationCircuitModel" "FlotationCircuitModel" "spot" "I") ∈ UW := List.mem_filter.mpr ⟨List.mem_of_getElem? (i := 967) rfl, rfl⟩
set_option maxRecDepth 100000 in
theorem uw_969 : (Jvm.Cond.laysFinal "FlotationCircuitModel" "FlotationCircuitModel" "read" "[I") ∈ UW := List.mem_filter.mpr ⟨List.mem_of_getElem? (i := 969) rfl, rfl⟩
set_option maxRecDepth 100000 in
theorem uw_971 : (Jvm.Cond.lays "FlotationCircuitModel" "FlotationCircuitModel" "measures" "I") ∈ UW := List.mem_filter.mpr ⟨List.mem_of_getElem? (i := 971) rfl, rfl⟩
set_option maxRecDepth 100000 in
theorem uw_973 : (Jvm.Cond.laysFinal "FlotationCircuitModel" "FlotationCircuitModel" "measureWhat" "[I") ∈ UW := List.mem_filter.mpr ⟨List.mem_of_getElem? (i := 973) rfl, rfl⟩
set_option maxRecDepth 100000 in
theorem uw_975 : (Jvm.Cond.laysFinal "FlotationCircuitModel" "FlotationCircuitModel" "measureIs" "[I") ∈ UW := List.mem_filter.mpr ⟨List.mem_of_getElem? (i := 975) rfl, rfl⟩
set_option maxRecDepth 100000 in
theorem uw_977 : (Jvm.Cond.laysFinal "FlotationCircuitModel" "FlotationCircuitModel" "matrix" "[J") ∈ UW := List.mem_filter.mpr ⟨List.mem_of_getElem? (i := 977) rfl, rfl⟩
set_option maxRecDepth 100000 in
theorem uw_979 : (Jvm.Cond.laysFinal "FlotationCircuitModel" "FlotationCircuitModel" "right" "[J") ∈ UW := List.mem_filter.mpr ⟨List.mem_of_getElem? (i := 979) rfl, rfl⟩
set_option maxRecDepth 100000 in
theorem uw_981 : (Jvm.Cond.laysFinal "FlotationCircuitModel" "FlotationCircuitModel" "minor" "[J") ∈ UW := List.mem_filter.mpr ⟨List.mem_of_getElem? (i := 981) rfl, rfl⟩
set_option maxRecDepth 100000 in
theorem uw_983 : (Jvm.Cond.lays "FlotationCircuitModel" "FlotationCircuitModel" "up" "J") ∈ UW := List.mem_filter.mpr ⟨List.mem_of_getElem? (i := 983) rfl, rfl⟩
set_option maxRecDepth 100000 in
theorem uw_985 : (Jvm.Cond.lays "FlotationCircuitModel" "FlotationCircuitModel" "low" "J") ∈ UW := List.mem_filter.mpr ⟨List.mem_of_getElem? (i := 985) rfl, rfl⟩
set_option maxRecDepth 100000 in
theorem uw_987 : (Jvm.Cond.superclass "FlotationCircuitModel" "java/lang/Object") ∈ UW := List.mem_filter.mpr ⟨List.mem_of_getElem? (i := 987) rfl, rfl⟩
set_option maxRecDepth 100000 in
theorem uw_988 : (Jvm.Cond.methodLink "FlotationCircuitLaw" (108 : Nat) ({ cls := "FlotationCircuitModel", name := "thrown", desc := "()I" } : Jvm.MethodName)) ∈ UW := List.mem_filter.mpr ⟨List.mem_of_getElem? (i := 988) rfl, rfl⟩
set_option maxRecDepth 100000 in
theorem uw_989 : (Jvm.Cond.instanceMethod ({ cls := "FlotationCircuitModel", name := "thrown", desc := "()I" } : Jvm.MethodName)) ∈ UW := List.mem_filter.mpr ⟨List.mem_of_getElem? (i := 989) rfl, rfl⟩
set_option maxRecDepth 100000 in
theorem uw_990 : (Jvm.Cond.selects "FlotationCircuitModel" ({ cls := "FlotationCircuitModel", name := "thrown", desc := "()I" } : Jvm.MethodName) ({ cls := "FlotationCircuitModel", name := "thrown", desc := "()I" } : Jvm.MethodName)) ∈ UW := List.mem_filter.mpr ⟨List.mem_of_getElem? (i := 990) rfl, rfl⟩
set_option maxRecDepth 100000 in
theorem uw_991 : (Jvm.Cond.code ({ cls := "FlotationCircuitModel", name := "thrown", desc := "()I" } : Jvm.MethodName) prog_12_method_2_code (1 : Nat) (Option.some Jvm.ClassFile.FieldType.int)) ∈ UW := List.mem_filter.mpr ⟨List.mem_of_getElem? (i := 991) rfl, rfl⟩
set_option maxRecDepth 100000 in
theorem uw_992 : (Jvm.Cond.methodLink "FlotationCircuitLaw" (107 : Nat) ({ cls := "FlotationCircuitModel", name := "append", desc := "(I)I" } : Jvm.MethodName)) ∈ UW := List.mem_filter.mpr ⟨List.mem_of_getElem? (i := 992) rfl, rfl⟩
set_option maxRecDepth 100000 in
theorem uw_993 : (Jvm.Cond.instanceMethod ({ cls := "FlotationCircuitModel", name := "append", desc := "(I)I" } : Jvm.MethodName)) ∈ UW := List.mem_filter.mpr ⟨List.mem_of_getElem? (i := 993) rfl, rfl⟩
set_option maxRecDepth 100000 in
theorem uw_994 : (Jvm.Cond.selects "FlotationCircuitModel" ({ cls := "FlotationCircuitModel", name := "append", desc := "(I)I" } : Jvm.MethodName) ({ cls := "FlotationCircuitModel", name := "append", desc := "(I)I" } : Jvm.MethodName)) ∈ UW := List.mem_filter.mpr ⟨List.mem_of_getElem? (i := 994) rfl, rfl⟩
set_option maxRecDepth 100000 in
theorem uw_995 : (Jvm.Cond.code ({ cls := "FlotationCircuitModel", name := "append", desc := "(I)I" } : Jvm.MethodName) prog_12_method_10_code (2 : Nat) (Option.some Jvm.ClassFile.FieldType.int)) ∈ UW := List.mem_filter.mpr ⟨List.mem_of_getElem? (i := 995) rfl, rfl⟩
set_option maxRecDepth 100000 in
theorem uw_996 : (Jvm.Cond.constantLong "FlotationCircuitModel" (71 : Nat) (255 : Int64)) ∈ UW := List.mem_filter.mpr ⟨List.mem_of_getElem? (i := 996) rfl, rfl⟩
set_option maxRecDepth 100000 in
theorem uw_997 : (Jvm.Cond.methodLink "FlotationCircuitModel" (55 : Nat) ({ cls := "FlotationCircuitModel", name := "in", desc := "(JJJ)Z" } : Jvm.MethodName)) ∈ UW := List.mem_filter.mpr ⟨List.mem_of_getElem? (i := 997) rfl, rfl⟩
set_option maxRecDepth 100000 in
theorem uw_998 : (Jvm.Cond.static ({ cls := "FlotationCircuitModel", name := "in", desc := "(JJJ)Z" } : Jvm.MethodName)) ∈ UW := List.mem_filter.mpr ⟨List.mem_of_getElem? (i := 998) rfl, rfl⟩
set_option maxRecDepth 100000 in
theorem uw_999 : (Jvm.Cond.code ({ cls := "FlotationCircuitModel", name := "in", desc := "(JJJ)Z" } : Jvm.MethodName) prog_12_method_4_code (6 : Nat) (Option.some Jvm.ClassFile.FieldType.boolean)) ∈ UW := List.mem_filter.mpr ⟨List.mem_of_getElem? (i := 999) rfl, rfl⟩
set_option maxRecDepth 100000 in
theorem uw_1000 : (Jvm.Cond.methodLink "FlotationCircuitModel" (76 : Nat) ({ cls := "FlotationCircuitModel", name := "refused", desc := "(I)Z" } : Jvm.MethodName)) ∈ UW := List.mem_filter.mpr ⟨List.mem_of_getElem? (i := 1000) rfl, rfl⟩
set_option maxRecDepth 100000 in
theorem uw_1002 : (Jvm.Cond.instanceMethod ({ cls := "FlotationCircuitModel", name := "refused", desc := "(I)Z" } : Jvm.MethodName)) ∈ UW := List.mem_filter.mpr ⟨List.mem_of_getElem? (i := 1002) rfl, rfl⟩
set_option maxRecDepth 100000 in
theorem uw_1003 : (Jvm.Cond.code ({ cls := "FlotationCircuitModel", name := "refused", desc := "(I)Z" } : Jvm.MethodName) prog_12_method_3_code (2 : Nat) (Option.some Jvm.ClassFile.FieldType.boolean)) ∈ UW := List.mem_filter.mpr ⟨List.mem_of_getElem? (i := 1003) rfl, rfl⟩
set_option maxRecDepth 100000 in
theorem uw_1004 : (Jvm.Cond.methodLink "FlotationCircuitLaw" (114 : Nat) ({ cls := "FlotationCircuitModel", name := "clearText", desc := "()I" } : Jvm.MethodName)) ∈ UW := List.mem_filter.mpr ⟨List.mem_of_getElem? (i := 1004) rfl, rfl⟩
set_option maxRecDepth 100000 in
theorem uw_1005 : (Jvm.Cond.instanceMethod ({ cls := "FlotationCircuitModel", name := "clearText", desc := "()I" } : Jvm.MethodName)) ∈ UW := List.mem_filter.mpr ⟨List.mem_of_getElem? (i := 1005) rfl, rfl⟩
set_option maxRecDepth 100000 in
theorem uw_1006 : (Jvm.Cond.selects "FlotationCircuitModel" ({ cls := "FlotationCircuitModel", name := "clearText", desc := "()I" } : Jvm.MethodName) ({ cls := "FlotationCircuitModel", name := "clearText", desc := "()I" } : Jvm.MethodName)) ∈ UW := List.mem_filter.mpr ⟨List.mem_of_getElem? (i := 1006) rfl, rfl⟩
set_option maxRecDepth 100000 in
theorem uw_1007 : (Jvm.Cond.code ({ cls := "FlotationCircuitModel", name := "clearText", desc := "()I" } : Jvm.MethodName) prog_12_method_11_code (2 : Nat) (Option.some Jvm.ClassFile.FieldType.int)) ∈ UW := List.mem_filter.mpr ⟨List.mem_of_getElem? (i := 1007) rfl, rfl⟩
set_option maxRecDepth 100000 in
theorem uw_1008 : (Jvm.Cond.methodLink "FlotationCircuitLaw" (118 : Nat) ({ cls := "FlotationCircuitModel", name := "errorPosition", desc := "()I" } : Jvm.MethodName)) ∈ UW := List.mem_filter.mpr ⟨List.mem_of_getElem? (i := 1008) rfl, rfl⟩
set_option maxRecDepth 100000 in
theorem uw_1009 : (Jvm.Cond.instanceMethod ({ cls := "FlotationCircuitModel", name := "errorPosition", desc := "()I" } : Jvm.MethodName)) ∈ UW := List.mem_filter.mpr ⟨List.mem_of_getElem? (i := 1009) rfl, rfl⟩
set_option maxRecDepth 100000 in
theorem uw_1010 : (Jvm.Cond.selects "FlotationCircuitModel" ({ cls := "FlotationCircuitModel", name := "errorPosition", desc := "()I" } : Jvm.MethodName) ({ cls := "FlotationCircuitModel", name := "errorPosition", desc := "()I" } : Jvm.MethodName)) ∈ UW := List.mem_filter.mpr ⟨List.mem_of_getElem? (i := 1010) rfl, rfl⟩
set_option maxRecDepth 100000 in
theorem uw_1011 : (Jvm.Cond.code ({ cls := "FlotationCircuitModel", name := "errorPosition", desc := "()I" } : Jvm.MethodName) prog_12_method_17_code (1 : Nat) (Option.some Jvm.ClassFile.FieldType.int)) ∈ UW := List.mem_filter.mpr ⟨List.mem_of_getElem? (i := 1011) rfl, rfl⟩
set_option maxRecDepth 100000 in
theorem uw_1012 : (Jvm.Cond.methodLink "FlotationCircuitModel" (101 : Nat) ({ cls := "FlotationCircuitModel", name := "readText", desc := "()I" } : Jvm.MethodName)) ∈ UW := List.mem_filter.mpr ⟨List.mem_of_getElem? (i := 1012) rfl, rfl⟩
set_option maxRecDepth 100000 in
theorem uw_1014 : (Jvm.Cond.instanceMethod ({ cls := "FlotationCircuitModel", name := "readText", desc := "()I" } : Jvm.MethodName)) ∈ UW := List.mem_filter.mpr ⟨List.mem_of_getElem? (i := 1014) rfl, rfl⟩
set_option maxRecDepth 100000 in
theorem uw_1015 : (Jvm.Cond.code ({ cls := "FlotationCircuitModel", name := "readText", desc := "()I" } : Jvm.MethodName) prog_12_method_16_code (2 : Nat) (Option.some Jvm.ClassFile.FieldType.int)) ∈ UW := List.mem_filter.mpr ⟨List.mem_of_getElem? (i := 1015) rfl, rfl⟩
set_option maxRecDepth 100000 in
theorem uw_1016 : (Jvm.Cond.methodLink "FlotationCircuitModel" (86 : Nat) ({ cls := "FlotationCircuitModel", name := "readLetter", desc := "(I)Z" } : Jvm.MethodName)) ∈ UW := List.mem_filter.mpr ⟨List.mem_of_getElem? (i := 1016) rfl, rfl⟩
set_option maxRecDepth 100000 in
theorem uw_1018 : (Jvm.Cond.instanceMethod ({ cls := "FlotationCircuitModel", name := "readLetter", desc := "(I)Z" } : Jvm.MethodName)) ∈ UW := List.mem_filter.mpr ⟨List.mem_of_getElem? (i := 1018) rfl, rfl⟩
set_option maxRecDepth 100000 in
theorem uw_1019 : (Jvm.Cond.code ({ cls := "FlotationCircuitModel", name := "readLetter", desc := "(I)Z" } : Jvm.MethodName) prog_12_method_12_code (3 : Nat) (Option.some Jvm.ClassFile.FieldType.boolean)) ∈ UW := List.mem_filter.mpr ⟨List.mem_of_getElem? (i := 1019) rfl, rfl⟩
set_option maxRecDepth 100000 in
theorem uw_1020 : (Jvm.Cond.methodLink "FlotationCircuitModel" (93 : Nat) ({ cls := "FlotationCircuitModel", name := "readGoal", desc := "(IZ)Z" } : Jvm.MethodName)) ∈ UW := List.mem_filter.mpr ⟨List.mem_of_getElem? (i := 1020) rfl, rfl⟩
set_option maxRecDepth 100000 in
theorem uw_1022 : (Jvm.Cond.instanceMethod ({ cls := "FlotationCircuitModel", name := "readGoal", desc := "(IZ)Z" } : Jvm.MethodName)) ∈ UW := List.mem_filter.mpr ⟨List.mem_of_getElem? (i := 1022) rfl, rfl⟩
set_option maxRecDepth 100000 in
theorem uw_1023 : (Jvm.Cond.code ({ cls := "FlotationCircuitModel", name := "readGoal", desc := "(IZ)Z" } : Jvm.MethodName) prog_12_method_14_code (4 : Nat) (Option.some Jvm.ClassFile.FieldType.boolean)) ∈ UW := List.mem_filter.mpr ⟨List.mem_of_getElem? (i := 1023) rfl, rfl⟩
set_option maxRecDepth 100000 in
theorem uw_1024 : (Jvm.Cond.methodLink "FlotationCircuitModel" (83 : Nat) ({ cls := "FlotationCircuitModel", name := "isGoal", desc := "(I)Z" } : Jvm.MethodName)) ∈ UW := List.mem_filter.mpr ⟨List.mem_of_getElem? (i := 1024) rfl, rfl⟩
set_option maxRecDepth 100000 in
theorem uw_1025 : (Jvm.Cond.static ({ cls := "FlotationCircuitModel", name := "isGoal", desc := "(I)Z" } : Jvm.MethodName)) ∈ UW := List.mem_filter.mpr ⟨List.mem_of_getElem? (i := 1025) rfl, rfl⟩
set_option maxRecDepth 100000 in
theorem uw_1026 : (Jvm.Cond.code ({ cls := "FlotationCircuitModel", name := "isGoal", desc := "(I)Z" } : Jvm.MethodName) prog_12_method_6_code (1 : Nat) (Option.some Jvm.ClassFile.FieldType.boolean)) ∈ UW := List.mem_filter.mpr ⟨List.mem_of_getElem? (i := 1026) rfl, rfl⟩
set_option maxRecDepth 100000 in
theorem uw_1027 : (Jvm.Cond.constantLong "FlotationCircuitModel" (59 : Nat) (5 : Int64)) ∈ UW := List.mem_filter.mpr ⟨List.mem_of_getElem? (i := 1027) rfl, rfl⟩
set_option maxRecDepth 100000 in
theorem uw_1028 : (Jvm.Cond.constantLong "FlotationCircuitModel" (61 : Nat) (8 : Int64)) ∈ UW := List.mem_filter.mpr ⟨List.mem_of_getElem? (i := 1028) rfl, rfl⟩
set_option maxRecDepth 100000 in
theorem uw_1029 : (Jvm.Cond.constantLong "FlotationCircuitModel" (63 : Nat) (9 : Int64)) ∈ UW := List.mem_filter.mpr ⟨List.mem_of_getElem? (i := 1029) rfl, rfl⟩
set_option maxRecDepth 100000 in
theorem uw_1030 : (Jvm.Cond.methodLink "FlotationCircuitModel" (89 : Nat) ({ cls := "FlotationCircuitModel", name := "readNumber", desc := "(II)Z" } : Jvm.MethodName)) ∈ UW := List.mem_filter.mpr ⟨List.mem_of_getElem? (i := 1030) rfl, rfl⟩
set_option maxRecDepth 100000 in
theorem uw_1032 : (Jvm.Cond.instanceMethod ({ cls := "FlotationCircuitModel", name := "readNumber", desc := "(II)Z" } : Jvm.MethodName)) ∈ UW := List.mem_filter.mpr ⟨List.mem_of_getElem? (i := 1032) rfl, rfl⟩
set_option maxRecDepth 100000 in
theorem uw_1033 : (Jvm.Cond.code ({ cls := "FlotationCircuitModel", name := "readNumber", desc := "(II)Z" } : Jvm.MethodName) prog_12_method_13_code (6 : Nat) (Option.some Jvm.ClassFile.FieldType.boolean)) ∈ UW := List.mem_filter.mpr ⟨List.mem_of_getElem? (i := 1033) rfl, rfl⟩
set_option maxRecDepth 100000 in
theorem uw_1034 : (Jvm.Cond.methodLink "FlotationCircuitModel" (97 : Nat) ({ cls := "FlotationCircuitModel", name := "readCell", desc := "()Z" } : Jvm.MethodName)) ∈ UW := List.mem_filter.mpr ⟨List.mem_of_getElem? (i := 1034) rfl, rfl⟩
set_option maxRecDepth 100000 in
theorem uw_1036 : (Jvm.Cond.instanceMethod ({ cls := "FlotationCircuitModel", name := "readCell", desc := "()Z" } : Jvm.MethodName)) ∈ UW := List.mem_filter.mpr ⟨List.mem_of_getElem? (i := 1036) rfl, rfl⟩
set_option maxRecDepth 100000 in
theorem uw_1037 : (Jvm.Cond.code ({ cls := "FlotationCircuitModel", name := "readCell", desc := "()Z" } : Jvm.MethodName) prog_12_method_15_code (3 : Nat) (Option.some Jvm.ClassFile.FieldType.boolean)) ∈ UW := List.mem_filter.mpr ⟨List.mem_of_getElem? (i := 1037) rfl, rfl⟩
set_option maxRecDepth 100000 in
theorem uw_1038 : (Jvm.Cond.methodLink "FlotationCircuitLaw" (122 : Nat) ({ cls := "FlotationCircuitModel", name := "load", desc := "()I" } : Jvm.MethodName)) ∈ UW := List.mem_filter.mpr ⟨List.mem_of_getElem? (i := 1038) rfl, rfl⟩
set_option maxRecDepth 100000 in
theorem uw_1039 : (Jvm.Cond.instanceMethod ({ cls := "FlotationCircuitModel", name := "load", desc := "()I" } : Jvm.MethodName)) ∈ UW := List.mem_filter.mpr ⟨List.mem_of_getElem? (i := 1039) rfl, rfl⟩
set_option maxRecDepth 100000 in
theorem uw_1040 : (Jvm.Cond.selects "FlotationCircuitModel" ({ cls := "FlotationCircuitModel", name := "load", desc := "()I" } : Jvm.MethodName) ({ cls := "FlotationCircuitModel", name := "load", desc := "()I" } : Jvm.MethodName)) ∈ UW := List.mem_filter.mpr ⟨List.mem_of_getElem? (i := 1040) rfl, rfl⟩
set_option maxRecDepth 100000 in
theorem uw_1041 : (Jvm.Cond.code ({ cls := "FlotationCircuitModel", name := "load", desc := "()I" } : Jvm.MethodName) prog_12_method_18_code (1 : Nat) (Option.some Jvm.ClassFile.FieldType.int)) ∈ UW := List.mem_filter.mpr ⟨List.mem_of_getElem? (i := 1041) rfl, rfl⟩
set_option maxRecDepth 100000 in
theorem uw_1042 : (Jvm.Cond.methodLink "FlotationCircuitModel" (105 : Nat) ({ cls := "FlotationCircuitModel", name := "copy", desc := "([I[I)V" } : Jvm.MethodName)) ∈ UW := List.mem_filter.mpr ⟨List.mem_of_getElem? (i := 1042) rfl, rfl⟩
set_option maxRecDepth 100000 in
theorem uw_1043 : (Jvm.Cond.static ({ cls := "FlotationCircuitModel", name := "copy", desc := "([I[I)V" } : Jvm.MethodName)) ∈ UW := List.mem_filter.mpr ⟨List.mem_of_getElem? (i := 1043) rfl, rfl⟩
set_option maxRecDepth 100000 in
theorem uw_1044 : (Jvm.Cond.code ({ cls := "FlotationCircuitModel", name := "copy", desc := "([I[I)V" } : Jvm.MethodName) prog_12_method_8_code (3 : Nat) (Option.none : Option Jvm.ClassFile.FieldType)) ∈ UW := List.mem_filter.mpr ⟨List.mem_of_getElem? (i := 1044) rfl, rfl⟩
set_option maxRecDepth 100000 in
theorem uw_1045 : (Jvm.Cond.methodLink "FlotationCircuitLaw" (126 : Nat) ({ cls := "FlotationCircuitModel", name := "cellCount", desc := "()I" } : Jvm.MethodName)) ∈ UW := List.mem_filter.mpr ⟨List.mem_of_getElem? (i := 1045) rfl, rfl⟩
set_option maxRecDepth 100000 in
theorem uw_1046 : (Jvm.Cond.instanceMethod ({ cls := "FlotationCircuitModel", name := "cellCount", desc := "()I" } : Jvm.MethodName)) ∈ UW := List.mem_filter.mpr ⟨List.mem_of_getElem? (i := 1046) rfl, rfl⟩
set_option maxRecDepth 100000 in
theorem uw_1047 : (Jvm.Cond.selects "FlotationCircuitModel" ({ cls := "FlotationCircuitModel", name := "cellCount", desc := "()I" } : Jvm.MethodName) ({ cls := "FlotationCircuitModel", name := "cellCount", desc := "()I" } : Jvm.MethodName)) ∈ UW := List.mem_filter.mpr ⟨List.mem_of_getElem? (i := 1047) rfl, rfl⟩
set_option maxRecDepth 100000 in
theorem uw_1048 : (Jvm.Cond.code ({ cls := "FlotationCircuitModel", name := "cellCount", desc := "()I" } : Jvm.MethodName) prog_12_method_19_code (1 : Nat) (Option.some Jvm.ClassFile.FieldType.int)) ∈ UW := List.mem_filter.mpr ⟨List.mem_of_getElem? (i := 1048) rfl, rfl⟩
set_option maxRecDepth 100000 in
theorem uw_1049 : (Jvm.Cond.methodLink "FlotationCircuitLaw" (130 : Nat) ({ cls := "FlotationCircuitModel", name := "recovery", desc := "(II)I" } : Jvm.MethodName)) ∈ UW := List.mem_filter.mpr ⟨List.mem_of_getElem? (i := 1049) rfl, rfl⟩
set_option maxRecDepth 100000 in
theorem uw_1050 : (Jvm.Cond.instanceMethod ({ cls := "FlotationCircuitModel", name := "recovery", desc := "(II)I" } : Jvm.MethodName)) ∈ UW := List.mem_filter.mpr ⟨List.mem_of_getElem? (i := 1050) rfl, rfl⟩
set_option maxRecDepth 100000 in
theorem uw_1051 : (Jvm.Cond.selects "FlotationCircuitModel" ({ cls := "FlotationCircuitModel", name := "recovery", desc := "(II)I" } : Jvm.MethodName) ({ cls := "FlotationCircuitModel", name := "recovery", desc := "(II)I" } : Jvm.MethodName)) ∈ UW := List.mem_filter.mpr ⟨List.mem_of_getElem? (i := 1051) rfl, rfl⟩
set_option maxRecDepth 100000 in
theorem uw_1052 : (Jvm.Cond.code ({ cls := "FlotationCircuitModel", name := "recovery", desc := "(II)I" } : Jvm.MethodName) prog_12_method_20_code (3 : Nat) (Option.some Jvm.ClassFile.FieldType.int)) ∈ UW := List.mem_filter.mpr ⟨List.mem_of_getElem? (i := 1052) rfl, rfl⟩
set_option maxRecDepth 100000 in
theorem uw_1053 : (Jvm.Cond.methodLink "FlotationCircuitModel" (109 : Nat) ({ cls := "FlotationCircuitModel", name := "isCell", desc := "(I)Z" } : Jvm.MethodName)) ∈ UW := List.mem_filter.mpr ⟨List.mem_of_getElem? (i := 1053) rfl, rfl⟩
set_option maxRecDepth 100000 in
theorem uw_1055 : (Jvm.Cond.instanceMethod ({ cls := "FlotationCircuitModel", name := "isCell", desc := "(I)Z" } : Jvm.MethodName)) ∈ UW := List.mem_filter.mpr ⟨List.mem_of_getElem? (i := 1055) rfl, rfl⟩
set_option maxRecDepth 100000 in
theorem uw_1056 : (Jvm.Cond.code ({ cls := "FlotationCircuitModel", name := "isCell", desc := "(I)Z" } : Jvm.MethodName) prog_12_method_7_code (2 : Nat) (Option.some Jvm.ClassFile.FieldType.boolean)) ∈ UW := List.mem_filter.mpr ⟨List.mem_of_getElem? (i := 1056) rfl, rfl⟩
set_option maxRecDepth 100000 in
theorem uw_1057 : (Jvm.Cond.methodLink "FlotationCircuitModel" (112 : Nat) ({ cls := "FlotationCircuitModel", name := "isBit", desc := "(I)Z" } : Jvm.MethodName)) ∈ UW := List.mem_filter.mpr ⟨List.mem_of_getElem? (i := 1057) rfl, rfl⟩
set_option maxRecDepth 100000 in
theorem uw_1058 : (Jvm.Cond.static ({ cls := "FlotationCircuitModel", name := "isBit", desc := "(I)Z" } : Jvm.MethodName)) ∈ UW := List.mem_filter.mpr ⟨List.mem_of_getElem? (i := 1058) rfl, rfl⟩
set_option maxRecDepth 100000 in
theorem uw_1059 : (Jvm.Cond.code ({ cls := "FlotationCircuitModel", name := "isBit", desc := "(I)Z" } : Jvm.MethodName) prog_12_method_5_code (1 : Nat) (Option.some Jvm.ClassFile.FieldType.boolean)) ∈ UW := List.mem_filter.mpr ⟨List.mem_of_getElem? (i := 1059) rfl, rfl⟩
set_option maxRecDepth 100000 in
theorem uw_1060 : (Jvm.Cond.methodLink "FlotationCircuitLaw" (133 : Nat) ({ cls := "FlotationCircuitModel", name := "destination", desc := "(II)I" } : Jvm.MethodName)) ∈ UW := List.mem_filter.mpr ⟨List.mem_of_getElem? (i := 1060) rfl, rfl⟩
set_option maxRecDepth 100000 in
theorem uw_1061 : (Jvm.Cond.instanceMethod ({ cls := "FlotationCircuitModel", name := "destination", desc := "(II)I" } : Jvm.MethodName)) ∈ UW := List.mem_filter.mpr ⟨List.mem_of_getElem? (i := 1061) rfl, rfl⟩
set_option maxRecDepth 100000 in
theorem uw_1062 : (Jvm.Cond.selects "FlotationCircuitModel" ({ cls := "FlotationCircuitModel", name := "destination", desc := "(II)I" } : Jvm.MethodName) ({ cls := "FlotationCircuitModel", name := "destination", desc := "(II)I" } : Jvm.MethodName)) ∈ UW := List.mem_filter.mpr ⟨List.mem_of_getElem? (i := 1062) rfl, rfl⟩
set_option maxRecDepth 100000 in
theorem uw_1063 : (Jvm.Cond.code ({ cls := "FlotationCircuitModel", name := "destination", desc := "(II)I" } : Jvm.MethodName) prog_12_method_21_code (3 : Nat) (Option.some Jvm.ClassFile.FieldType.int)) ∈ UW := List.mem_filter.mpr ⟨List.mem_of_getElem? (i := 1063) rfl, rfl⟩
set_option maxRecDepth 100000 in
theorem uw_1064 : (Jvm.Cond.methodLink "FlotationCircuitLaw" (137 : Nat) ({ cls := "FlotationCircuitModel", name := "feedCell", desc := "()I" } : Jvm.MethodName)) ∈ UW := List.mem_filter.mpr ⟨List.mem_of_getElem? (i := 1064) rfl, rfl⟩
set_option maxRecDepth 100000 in
theorem uw_1065 : (Jvm.Cond.instanceMethod ({ cls := "FlotationCircuitModel", name := "feedCell", desc := "()I" } : Jvm.MethodName)) ∈ UW := List.mem_filter.mpr ⟨List.mem_of_getElem? (i := 1065) rfl, rfl⟩
set_option maxRecDepth 100000 in
theorem uw_1066 : (Jvm.Cond.selects "FlotationCircuitModel" ({ cls := "FlotationCircuitModel", name := "feedCell", desc := "()I" } : Jvm.MethodName) ({ cls := "FlotationCircuitModel", name := "feedCell", desc := "()I" } : Jvm.MethodName)) ∈ UW := List.mem_filter.mpr ⟨List.mem_of_getElem? (i := 1066) rfl, rfl⟩
set_option maxRecDepth 100000 in
theorem uw_1067 : (Jvm.Cond.code ({ cls := "FlotationCircuitModel", name := "feedCell", desc := "()I" } : Jvm.MethodName) prog_12_method_22_code (1 : Nat) (Option.some Jvm.ClassFile.FieldType.int)) ∈ UW := List.mem_filter.mpr ⟨List.mem_of_getElem? (i := 1067) rfl, rfl⟩
set_option maxRecDepth 100000 in
theorem uw_1068 : (Jvm.Cond.methodLink "FlotationCircuitLaw" (140 : Nat) ({ cls := "FlotationCircuitModel", name := "feedAmount", desc := "(I)I" } : Jvm.MethodName)) ∈ UW := List.mem_filter.mpr ⟨List.mem_of_getElem? (i := 1068) rfl, rfl⟩
set_option maxRecDepth 100000 in
theorem uw_1069 : (Jvm.Cond.instanceMethod ({ cls := "FlotationCircuitModel", name := "feedAmount", desc := "(I)I" } : Jvm.MethodName)) ∈ UW := List.mem_filter.mpr ⟨List.mem_of_getElem? (i := 1069) rfl, rfl⟩
set_option maxRecDepth 100000 in
theorem uw_1070 : (Jvm.Cond.selects "FlotationCircuitModel" ({ cls := "FlotationCircuitModel", name := "feedAmount", desc := "(I)I" } : Jvm.MethodName) ({ cls := "FlotationCircuitModel", name := "feedAmount", desc := "(I)I" } : Jvm.MethodName)) ∈ UW := List.mem_filter.mpr ⟨List.mem_of_getElem? (i := 1070) rfl, rfl⟩
set_option maxRecDepth 100000 in
theorem uw_1071 : (Jvm.Cond.code ({ cls := "FlotationCircuitModel", name := "feedAmount", desc := "(I)I" } : Jvm.MethodName) prog_12_method_23_code (2 : Nat) (Option.some Jvm.ClassFile.FieldType.int)) ∈ UW := List.mem_filter.mpr ⟨List.mem_of_getElem? (i := 1071) rfl, rfl⟩
set_option maxRecDepth 100000 in
theorem uw_1072 : (Jvm.Cond.methodLink "FlotationCircuitLaw" (144 : Nat) ({ cls := "FlotationCircuitModel", name := "addCell", desc := "(IIII)I" } : Jvm.MethodName)) ∈ UW := List.mem_filter.mpr ⟨List.mem_of_getElem? (i := 1072) rfl, rfl⟩
set_option maxRecDepth 100000 in
theorem uw_1073 : (Jvm.Cond.instanceMethod ({ cls := "FlotationCircuitModel", name := "addCell", desc := "(IIII)I" } : Jvm.MethodName)) ∈ UW := List.mem_filter.mpr ⟨List.mem_of_getElem? (i := 1073) rfl, rfl⟩
set_option maxRecDepth 100000 in
theorem uw_1074 : (Jvm.Cond.selects "FlotationCircuitModel" ({ cls := "FlotationCircuitModel", name := "addCell", desc := "(IIII)I" } : Jvm.MethodName) ({ cls := "FlotationCircuitModel", name := "addCell", desc := "(IIII)I" } : Jvm.MethodName)) ∈ UW := List.mem_filter.mpr ⟨List.mem_of_getElem? (i := 1074) rfl, rfl⟩
set_option maxRecDepth 100000 in
theorem uw_1075 : (Jvm.Cond.code ({ cls := "FlotationCircuitModel", name := "addCell", desc := "(IIII)I" } : Jvm.MethodName) prog_12_method_24_code (7 : Nat) (Option.some Jvm.ClassFile.FieldType.int)) ∈ UW := List.mem_filter.mpr ⟨List.mem_of_getElem? (i := 1075) rfl, rfl⟩
set_option maxRecDepth 100000 in
theorem uw_1076 : (Jvm.Cond.constantLong "FlotationCircuitModel" (115 : Nat) (100 : Int64)) ∈ UW := List.mem_filter.mpr ⟨List.mem_of_getElem? (i := 1076) rfl, rfl⟩
set_option maxRecDepth 100000 in
theorem uw_1077 : (Jvm.Cond.methodLink "FlotationCircuitModel" (117 : Nat) ({ cls := "FlotationCircuitModel", name := "note", desc := "()V" } : Jvm.MethodName)) ∈ UW := List.mem_filter.mpr ⟨List.mem_of_getElem? (i := 1077) rfl, rfl⟩
set_option maxRecDepth 100000 in
theorem uw_1079 : (Jvm.Cond.instanceMethod ({ cls := "FlotationCircuitModel", name := "note", desc := "()V" } : Jvm.MethodName)) ∈ UW := List.mem_filter.mpr ⟨List.mem_of_getElem? (i := 1079) rfl, rfl⟩
set_option maxRecDepth 100000 in
theorem uw_1080 : (Jvm.Cond.code ({ cls := "FlotationCircuitModel", name := "note", desc := "()V" } : Jvm.MethodName) prog_12_method_9_code (2 : Nat) (Option.none : Option Jvm.ClassFile.FieldType)) ∈ UW := List.mem_filter.mpr ⟨List.mem_of_getElem? (i := 1080) rfl, rfl⟩
set_option maxRecDepth 100000 in
theorem uw_1081 : (Jvm.Cond.methodLink "FlotationCircuitLaw" (147 : Nat) ({ cls := "FlotationCircuitModel", name := "removeLastCell", desc := "()I" } : Jvm.MethodName)) ∈ UW := List.mem_filter.mpr ⟨List.mem_of_getElem? (i := 1081) rfl, rfl⟩
set_option maxRecDepth 100000 in
theorem uw_1082 : (Jvm.Cond.instanceMethod ({ cls := "FlotationCircuitModel", name := "removeLastCell", desc := "()I" } : Jvm.MethodName)) ∈ UW := List.mem_filter.mpr ⟨List.mem_of_getElem? (i := 1082) rfl, rfl⟩
set_option maxRecDepth 100000 in
theorem uw_1083 : (Jvm.Cond.selects "FlotationCircuitModel" ({ cls := "FlotationCircuitModel", name := "removeLastCell", desc := "()I" } : Jvm.MethodName) ({ cls := "FlotationCircuitModel", name := "removeLastCell", desc := "()I" } : Jvm.MethodName)) ∈ UW := List.mem_filter.mpr ⟨List.mem_of_getElem? (i := 1083) rfl, rfl⟩
set_option maxRecDepth 100000 in
theorem uw_1084 : (Jvm.Cond.code ({ cls := "FlotationCircuitModel", name := "removeLastCell", desc := "()I" } : Jvm.MethodName) prog_12_method_25_code (3 : Nat) (Option.some Jvm.ClassFile.FieldType.int)) ∈ UW := List.mem_filter.mpr ⟨List.mem_of_getElem? (i := 1084) rfl, rfl⟩
set_option maxRecDepth 100000 in
theorem uw_1085 : (Jvm.Cond.methodLink "FlotationCircuitLaw" (151 : Nat) ({ cls := "FlotationCircuitModel", name := "setRecovery", desc := "(III)I" } : Jvm.MethodName)) ∈ UW := List.mem_filter.mpr ⟨List.mem_of_getElem? (i := 1085) rfl, rfl⟩
set_option maxRecDepth 100000 in
theorem uw_1086 : (Jvm.Cond.instanceMethod ({ cls := "FlotationCircuitModel", name := "setRecovery", desc := "(III)I" } : Jvm.MethodName)) ∈ UW := List.mem_filter.mpr ⟨List.mem_of_getElem? (i := 1086) rfl, rfl⟩
set_option maxRecDepth 100000 in
theorem uw_1087 : (Jvm.Cond.selects "FlotationCircuitModel" ({ cls := "FlotationCircuitModel", name := "setRecovery", desc := "(III)I" } : Jvm.MethodName) ({ cls := "FlotationCircuitModel", name := "setRecovery", desc := "(III)I" } : Jvm.MethodName)) ∈ UW := List.mem_filter.mpr ⟨List.mem_of_getElem? (i := 1087) rfl, rfl⟩
set_option maxRecDepth 100000 in
theorem uw_1088 : (Jvm.Cond.code ({ cls := "FlotationCircuitModel", name := "setRecovery", desc := "(III)I" } : Jvm.MethodName) prog_12_method_26_code (5 : Nat) (Option.some Jvm.ClassFile.FieldType.int)) ∈ UW := List.mem_filter.mpr ⟨List.mem_of_getElem? (i := 1088) rfl, rfl⟩
set_option maxRecDepth 100000 in
theorem uw_1089 : (Jvm.Cond.methodLink "FlotationCircuitLaw" (154 : Nat) ({ cls := "FlotationCircuitModel", name := "setDestination", desc := "(III)I" } : Jvm.MethodName)) ∈ UW := List.mem_filter.mpr ⟨List.mem_of_getElem? (i := 1089) rfl, rfl⟩
set_option maxRecDepth 100000 in
theorem uw_1090 : (Jvm.Cond.instanceMethod ({ cls := "FlotationCircuitModel", name := "setDestination", desc := "(III)I" } : Jvm.MethodName)) ∈ UW := List.mem_filter.mpr ⟨List.mem_of_getElem? (i := 1090) rfl, rfl⟩
set_option maxRecDepth 100000 in
theorem uw_1091 : (Jvm.Cond.selects "FlotationCircuitModel" ({ cls := "FlotationCircuitModel", name := "setDestination", desc := "(III)I" } : Jvm.MethodName) ({ cls := "FlotationCircuitModel", name := "setDestination", desc := "(III)I" } : Jvm.MethodName)) ∈ UW := List.mem_filter.mpr ⟨List.mem_of_getElem? (i := 1091) rfl, rfl⟩
set_option maxRecDepth 100000 in
theorem uw_1092 : (Jvm.Cond.code ({ cls := "FlotationCircuitModel", name := "setDestination", desc := "(III)I" } : Jvm.MethodName) prog_12_method_27_code (5 : Nat) (Option.some Jvm.ClassFile.FieldType.int)) ∈ UW := List.mem_filter.mpr ⟨List.mem_of_getElem? (i := 1092) rfl, rfl⟩
set_option maxRecDepth 100000 in
theorem uw_1093 : (Jvm.Cond.methodLink "FlotationCircuitLaw" (157 : Nat) ({ cls := "FlotationCircuitModel", name := "setFeed", desc := "(III)I" } : Jvm.MethodName)) ∈ UW := List.mem_filter.mpr ⟨List.mem_of_getElem? (i := 1093) rfl, rfl⟩
set_option maxRecDepth 100000 in
theorem uw_1094 : (Jvm.Cond.instanceMethod ({ cls := "FlotationCircuitModel", name := "setFeed", desc := "(III)I" } : Jvm.MethodName)) ∈ UW := List.mem_filter.mpr ⟨List.mem_of_getElem? (i := 1094) rfl, rfl⟩
set_option maxRecDepth 100000 in
theorem uw_1095 : (Jvm.Cond.selects "FlotationCircuitModel" ({ cls := "FlotationCircuitModel", name := "setFeed", desc := "(III)I" } : Jvm.MethodName) ({ cls := "FlotationCircuitModel", name := "setFeed", desc := "(III)I" } : Jvm.MethodName)) ∈ UW := List.mem_filter.mpr ⟨List.mem_of_getElem? (i := 1095) rfl, rfl⟩
set_option maxRecDepth 100000 in
theorem uw_1096 : (Jvm.Cond.code ({ cls := "FlotationCircuitModel", name := "setFeed", desc := "(III)I" } : Jvm.MethodName) prog_12_method_28_code (5 : Nat) (Option.some Jvm.ClassFile.FieldType.int)) ∈ UW := List.mem_filter.mpr ⟨List.mem_of_getElem? (i := 1096) rfl, rfl⟩
set_option maxRecDepth 100000 in
theorem uw_1097 : (Jvm.Cond.constantLong "FlotationCircuitModel" (120 : Nat) (999 : Int64)) ∈ UW := List.mem_filter.mpr ⟨List.mem_of_getElem? (i := 1097) rfl, rfl⟩
set_option maxRecDepth 100000 in
theorem uw_1098 : (Jvm.Cond.methodLink "FlotationCircuitLaw" (160 : Nat) ({ cls := "FlotationCircuitModel", name := "step", desc := "(I)I" } : Jvm.MethodName)) ∈ UW := List.mem_filter.mpr ⟨List.mem_of_getElem? (i := 1098) rfl, rfl⟩
set_option maxRecDepth 100000 in
theorem uw_1099 : (Jvm.Cond.instanceMethod ({ cls := "FlotationCircuitModel", name := "step", desc := "(I)I" } : Jvm.MethodName)) ∈ UW := List.mem_filter.mpr ⟨List.mem_of_getElem? (i := 1099) rfl, rfl⟩
set_option maxRecDepth 100000 in
theorem uw_1100 : (Jvm.Cond.selects "FlotationCircuitModel" ({ cls := "FlotationCircuitModel", name := "step", desc := "(I)I" } : Jvm.MethodName) ({ cls := "FlotationCircuitModel", name := "step", desc := "(I)I" } : Jvm.MethodName)) ∈ UW := List.mem_filter.mpr ⟨List.mem_of_getElem? (i := 1100) rfl, rfl⟩
set_option maxRecDepth 100000 in
theorem uw_1101 : (Jvm.Cond.code ({ cls := "FlotationCircuitModel", name := "step", desc := "(I)I" } : Jvm.MethodName) prog_12_method_32_code (3 : Nat) (Option.some Jvm.ClassFile.FieldType.int)) ∈ UW := List.mem_filter.mpr ⟨List.mem_of_getElem? (i := 1101) rfl, rfl⟩
set_option maxRecDepth 100000 in
theorem uw_1102 : (Jvm.Cond.methodLink "FlotationCircuitModel" (130 : Nat) ({ cls := "FlotationCircuitModel", name := "goStep", desc := "([I)V" } : Jvm.MethodName)) ∈ UW := List.mem_filter.mpr ⟨List.mem_of_getElem? (i := 1102) rfl, rfl⟩
set_option maxRecDepth 100000 in
theorem uw_1104 : (Jvm.Cond.instanceMethod ({ cls := "FlotationCircuitModel", name := "goStep", desc := "([I)V" } : Jvm.MethodName)) ∈ UW := List.mem_filter.mpr ⟨List.mem_of_getElem? (i := 1104) rfl, rfl⟩
set_option maxRecDepth 100000 in
theorem uw_1105 : (Jvm.Cond.code ({ cls := "FlotationCircuitModel", name := "goStep", desc := "([I)V" } : Jvm.MethodName) prog_12_method_31_code (7 : Nat) (Option.none : Option Jvm.ClassFile.FieldType)) ∈ UW := List.mem_filter.mpr ⟨List.mem_of_getElem? (i := 1105) rfl, rfl⟩
set_option maxRecDepth 100000 in
theorem uw_1106 : (Jvm.Cond.methodLink "FlotationCircuitModel" (122 : Nat) ({ cls := "FlotationCircuitModel", name := "goalOf", desc := "([II)I" } : Jvm.MethodName)) ∈ UW := List.mem_filter.mpr ⟨List.mem_of_getElem? (i := 1106) rfl, rfl⟩
set_option maxRecDepth 100000 in
theorem uw_1107 : (Jvm.Cond.static ({ cls := "FlotationCircuitModel", name := "goalOf", desc := "([II)I" } : Jvm.MethodName)) ∈ UW := List.mem_filter.mpr ⟨List.mem_of_getElem? (i := 1107) rfl, rfl⟩
set_option maxRecDepth 100000 in
theorem uw_1108 : (Jvm.Cond.code ({ cls := "FlotationCircuitModel", name := "goalOf", desc := "([II)I" } : Jvm.MethodName) prog_12_method_29_code (2 : Nat) (Option.some Jvm.ClassFile.FieldType.int)) ∈ UW := List.mem_filter.mpr ⟨List.mem_of_getElem? (i := 1108) rfl, rfl⟩
set_option maxRecDepth 100000 in
theorem uw_1109 : (Jvm.Cond.methodLink "FlotationCircuitModel" (126 : Nat) ({ cls := "FlotationCircuitModel", name := "bring", desc := "([IIII)V" } : Jvm.MethodName)) ∈ UW := List.mem_filter.mpr ⟨List.mem_of_getElem? (i := 1109) rfl, rfl⟩
set_option maxRecDepth 100000 in
theorem uw_1110 : (Jvm.Cond.static ({ cls := "FlotationCircuitModel", name := "bring", desc := "([IIII)V" } : Jvm.MethodName)) ∈ UW := List.mem_filter.mpr ⟨List.mem_of_getElem? (i := 1110) rfl, rfl⟩
set_option maxRecDepth 100000 in
theorem uw_1111 : (Jvm.Cond.code ({ cls := "FlotationCircuitModel", name := "bring", desc := "([IIII)V" } : Jvm.MethodName) prog_12_method_30_code (4 : Nat) (Option.none : Option Jvm.ClassFile.FieldType)) ∈ UW := List.mem_filter.mpr ⟨List.mem_of_getElem? (i := 1111) rfl, rfl⟩
set_option maxRecDepth 100000 in
theorem uw_1112 : (Jvm.Cond.methodLink "FlotationCircuitLaw" (164 : Nat) ({ cls := "FlotationCircuitModel", name := "drain", desc := "()I" } : Jvm.MethodName)) ∈ UW := List.mem_filter.mpr ⟨List.mem_of_getElem? (i := 1112) rfl, rfl⟩
set_option maxRecDepth 100000 in
theorem uw_1113 : (Jvm.Cond.instanceMethod ({ cls := "FlotationCircuitModel", name := "drain", desc := "()I" } : Jvm.MethodName)) ∈ UW := List.mem_filter.mpr ⟨List.mem_of_getElem? (i := 1113) rfl, rfl⟩
set_option maxRecDepth 100000 in
theorem uw_1114 : (Jvm.Cond.selects "FlotationCircuitModel" ({ cls := "FlotationCircuitModel", name := "drain", desc := "()I" } : Jvm.MethodName) ({ cls := "FlotationCircuitModel", name := "drain", desc := "()I" } : Jvm.MethodName)) ∈ UW := List.mem_filter.mpr ⟨List.mem_of_getElem? (i := 1114) rfl, rfl⟩
set_option maxRecDepth 100000 in
theorem uw_1115 : (Jvm.Cond.code ({ cls := "FlotationCircuitModel", name := "drain", desc := "()I" } : Jvm.MethodName) prog_12_method_33_code (3 : Nat) (Option.some Jvm.ClassFile.FieldType.int)) ∈ UW := List.mem_filter.mpr ⟨List.mem_of_getElem? (i := 1115) rfl, rfl⟩
set_option maxRecDepth 100000 in
theorem uw_1116 : (Jvm.Cond.methodLink "FlotationCircuitLaw" (167 : Nat) ({ cls := "FlotationCircuitModel", name := "undo", desc := "()I" } : Jvm.MethodName)) ∈ UW := List.mem_filter.mpr ⟨List.mem_of_getElem? (i := 1116) rfl, rfl⟩
set_option maxRecDepth 100000 in
theorem uw_1117 : (Jvm.Cond.instanceMethod ({ cls := "FlotationCircuitModel", name := "undo", desc := "()I" } : Jvm.MethodName)) ∈ UW := List.mem_filter.mpr ⟨List.mem_of_getElem? (i := 1117) rfl, rfl⟩
set_option maxRecDepth 100000 in
theorem uw_1118 : (Jvm.Cond.selects "FlotationCircuitModel" ({ cls := "FlotationCircuitModel", name := "undo", desc := "()I" } : Jvm.MethodName) ({ cls := "FlotationCircuitModel", name := "undo", desc := "()I" } : Jvm.MethodName)) ∈ UW := List.mem_filter.mpr ⟨List.mem_of_getElem? (i := 1118) rfl, rfl⟩
set_option maxRecDepth 100000 in
theorem uw_1119 : (Jvm.Cond.code ({ cls := "FlotationCircuitModel", name := "undo", desc := "()I" } : Jvm.MethodName) prog_12_method_34_code (2 : Nat) (Option.some Jvm.ClassFile.FieldType.int)) ∈ UW := List.mem_filter.mpr ⟨List.mem_of_getElem? (i := 1119) rfl, rfl⟩
set_option maxRecDepth 100000 in
theorem uw_1120 : (Jvm.Cond.methodLink "FlotationCircuitLaw" (170 : Nat) ({ cls := "FlotationCircuitModel", name := "content", desc := "(II)I" } : Jvm.MethodName)) ∈ UW := List.mem_filter.mpr ⟨List.mem_of_getElem? (i := 1120) rfl, rfl⟩
set_option maxRecDepth 100000 in
theorem uw_1121 : (Jvm.Cond.instanceMethod ({ cls := "FlotationCircuitModel", name := "content", desc := "(II)I" } : Jvm.MethodName)) ∈ UW := List.mem_filter.mpr ⟨List.mem_of_getElem? (i := 1121) rfl, rfl⟩
set_option maxRecDepth 100000 in
theorem uw_1122 : (Jvm.Cond.selects "FlotationCircuitModel" ({ cls := "FlotationCircuitModel", name := "content", desc := "(II)I" } : Jvm.MethodName) ({ cls := "FlotationCircuitModel", name := "content", desc := "(II)I" } : Jvm.MethodName)) ∈ UW := List.mem_filter.mpr ⟨List.mem_of_getElem? (i := 1122) rfl, rfl⟩
set_option maxRecDepth 100000 in
theorem uw_1123 : (Jvm.Cond.code ({ cls := "FlotationCircuitModel", name := "content", desc := "(II)I" } : Jvm.MethodName) prog_12_method_35_code (3 : Nat) (Option.some Jvm.ClassFile.FieldType.int)) ∈ UW := List.mem_filter.mpr ⟨List.mem_of_getElem? (i := 1123) rfl, rfl⟩
set_option maxRecDepth 100000 in
theorem uw_1124 : (Jvm.Cond.methodLink "FlotationCircuitLaw" (173 : Nat) ({ cls := "FlotationCircuitModel", name := "amount", desc := "(II)I" } : Jvm.MethodName)) ∈ UW := List.mem_filter.mpr ⟨List.mem_of_getElem? (i := 1124) rfl, rfl⟩
set_option maxRecDepth 100000 in
theorem uw_1125 : (Jvm.Cond.instanceMethod ({ cls := "FlotationCircuitModel", name := "amount", desc := "(II)I" } : Jvm.MethodName)) ∈ UW := List.mem_filter.mpr ⟨List.mem_of_getElem? (i := 1125) rfl, rfl⟩
set_option maxRecDepth 100000 in
theorem uw_1126 : (Jvm.Cond.selects "FlotationCircuitModel" ({ cls := "FlotationCircuitModel", name := "amount", desc := "(II)I" } : Jvm.MethodName) ({ cls := "FlotationCircuitModel", name := "amount", desc := "(II)I" } : Jvm.MethodName)) ∈ UW := List.mem_filter.mpr ⟨List.mem_of_getElem? (i := 1126) rfl, rfl⟩
set_option maxRecDepth 100000 in
theorem uw_1127 : (Jvm.Cond.code ({ cls := "FlotationCircuitModel", name := "amount", desc := "(II)I" } : Jvm.MethodName) prog_12_method_36_code (3 : Nat) (Option.some Jvm.ClassFile.FieldType.int)) ∈ UW := List.mem_filter.mpr ⟨List.mem_of_getElem? (i := 1127) rfl, rfl⟩
set_option maxRecDepth 100000 in
theorem uw_1128 : (Jvm.Cond.methodLink "FlotationCircuitLaw" (178 : Nat) ({ cls := "FlotationCircuitModel", name := "hasSteadyState", desc := "()Z" } : Jvm.MethodName)) ∈ UW := List.mem_filter.mpr ⟨List.mem_of_getElem? (i := 1128) rfl, rfl⟩
set_option maxRecDepth 100000 in
theorem uw_1129 : (Jvm.Cond.instanceMethod ({ cls := "FlotationCircuitModel", name := "hasSteadyState", desc := "()Z" } : Jvm.MethodName)) ∈ UW := List.mem_filter.mpr ⟨List.mem_of_getElem? (i := 1129) rfl, rfl⟩
set_option maxRecDepth 100000 in
theorem uw_1130 : (Jvm.Cond.selects "FlotationCircuitModel" ({ cls := "FlotationCircuitModel", name := "hasSteadyState", desc := "()Z" } : Jvm.MethodName) ({ cls := "FlotationCircuitModel", name := "hasSteadyState", desc := "()Z" } : Jvm.MethodName)) ∈ UW := List.mem_filter.mpr ⟨List.mem_of_getElem? (i := 1130) rfl, rfl⟩
set_option maxRecDepth 100000 in
theorem uw_1131 : (Jvm.Cond.code ({ cls := "FlotationCircuitModel", name := "hasSteadyState", desc := "()Z" } : Jvm.MethodName) prog_12_method_48_code (1 : Nat) (Option.some Jvm.ClassFile.FieldType.boolean)) ∈ UW := List.mem_filter.mpr ⟨List.mem_of_getElem? (i := 1131) rfl, rfl⟩
set_option maxRecDepth 100000 in
theorem uw_1132 : (Jvm.Cond.methodLink "FlotationCircuitModel" (176 : Nat) ({ cls := "FlotationCircuitModel", name := "isSteadyAll", desc := "([I)Z" } : Jvm.MethodName)) ∈ UW := List.mem_filter.mpr ⟨List.mem_of_getElem? (i := 1132) rfl, rfl⟩
set_option maxRecDepth 100000 in
theorem uw_1133 : (Jvm.Cond.static ({ cls := "FlotationCircuitModel", name := "isSteadyAll", desc := "([I)Z" } : Jvm.MethodName)) ∈ UW := List.mem_filter.mpr ⟨List.mem_of_getElem? (i := 1133) rfl, rfl⟩
set_option maxRecDepth 100000 in
theorem uw_1134 : (Jvm.Cond.code ({ cls := "FlotationCircuitModel", name := "isSteadyAll", desc := "([I)Z" } : Jvm.MethodName) prog_12_method_40_code (1 : Nat) (Option.some Jvm.ClassFile.FieldType.boolean)) ∈ UW := List.mem_filter.mpr ⟨List.mem_of_getElem? (i := 1134) rfl, rfl⟩
set_option maxRecDepth 100000 in
theorem uw_1135 : (Jvm.Cond.methodLink "FlotationCircuitModel" (138 : Nat) ({ cls := "FlotationCircuitModel", name := "isSteady", desc := "([II)Z" } : Jvm.MethodName)) ∈ UW := List.mem_filter.mpr ⟨List.mem_of_getElem? (i := 1135) rfl, rfl⟩
set_option maxRecDepth 100000 in
theorem uw_1136 : (Jvm.Cond.static ({ cls := "FlotationCircuitModel", name := "isSteady", desc := "([II)Z" } : Jvm.MethodName)) ∈ UW := List.mem_filter.mpr ⟨List.mem_of_getElem? (i := 1136) rfl, rfl⟩
set_option maxRecDepth 100000 in
theorem uw_1137 : (Jvm.Cond.code ({ cls := "FlotationCircuitModel", name := "isSteady", desc := "([II)Z" } : Jvm.MethodName) prog_12_method_39_code (8 : Nat) (Option.some Jvm.ClassFile.FieldType.boolean)) ∈ UW := List.mem_filter.mpr ⟨List.mem_of_getElem? (i := 1137) rfl, rfl⟩
set_option maxRecDepth 100000 in
theorem uw_1138 : (Jvm.Cond.methodLink "FlotationCircuitModel" (134 : Nat) ({ cls := "FlotationCircuitModel", name := "share", desc := "([IIII)I" } : Jvm.MethodName)) ∈ UW := List.mem_filter.mpr ⟨List.mem_of_getElem? (i := 1138) rfl, rfl⟩
set_option maxRecDepth 100000 in
theorem uw_1139 : (Jvm.Cond.static ({ cls := "FlotationCircuitModel", name := "share", desc := "([IIII)I" } : Jvm.MethodName)) ∈ UW := List.mem_filter.mpr ⟨List.mem_of_getElem? (i := 1139) rfl, rfl⟩
set_option maxRecDepth 100000 in
theorem uw_1140 : (Jvm.Cond.code ({ cls := "FlotationCircuitModel", name := "share", desc := "([IIII)I" } : Jvm.MethodName) prog_12_method_37_code (5 : Nat) (Option.some Jvm.ClassFile.FieldType.int)) ∈ UW := List.mem_filter.mpr ⟨List.mem_of_getElem? (i := 1140) rfl, rfl⟩
set_option maxRecDepth 100000 in
theorem uw_1141 : (Jvm.Cond.methodLink "FlotationCircuitLaw" (181 : Nat) ({ cls := "FlotationCircuitModel", name := "flowNumerator", desc := "(II)J" } : Jvm.MethodName)) ∈ UW := List.mem_filter.mpr ⟨List.mem_of_getElem? (i := 1141) rfl, rfl⟩
set_option maxRecDepth 100000 in
theorem uw_1142 : (Jvm.Cond.instanceMethod ({ cls := "FlotationCircuitModel", name := "flowNumerator", desc := "(II)J" } : Jvm.MethodName)) ∈ UW := List.mem_filter.mpr ⟨List.mem_of_getElem? (i := 1142) rfl, rfl⟩
set_option maxRecDepth 100000 in
theorem uw_1143 : (Jvm.Cond.selects "FlotationCircuitModel" ({ cls := "FlotationCircuitModel", name := "flowNumerator", desc := "(II)J" } : Jvm.MethodName) ({ cls := "FlotationCircuitModel", name := "flowNumerator", desc := "(II)J" } : Jvm.MethodName)) ∈ UW := List.mem_filter.mpr ⟨List.mem_of_getElem? (i := 1143) rfl, rfl⟩
set_option maxRecDepth 100000 in
theorem uw_1144 : (Jvm.Cond.code ({ cls := "FlotationCircuitModel", name := "flowNumerator", desc := "(II)J" } : Jvm.MethodName) prog_12_method_50_code (3 : Nat) (Option.some Jvm.ClassFile.FieldType.long)) ∈ UW := List.mem_filter.mpr ⟨List.mem_of_getElem? (i := 1144) rfl, rfl⟩
set_option maxRecDepth 100000 in
theorem uw_1145 : (Jvm.Cond.methodLink "FlotationCircuitModel" (180 : Nat) ({ cls := "FlotationCircuitModel", name := "noFlow", desc := "(II)Z" } : Jvm.MethodName)) ∈ UW := List.mem_filter.mpr ⟨List.mem_of_getElem? (i := 1145) rfl, rfl⟩
set_option maxRecDepth 100000 in
theorem uw_1147 : (Jvm.Cond.instanceMethod ({ cls := "FlotationCircuitModel", name := "noFlow", desc := "(II)Z" } : Jvm.MethodName)) ∈ UW := List.mem_filter.mpr ⟨List.mem_of_getElem? (i := 1147) rfl, rfl⟩
set_option maxRecDepth 100000 in
theorem uw_1148 : (Jvm.Cond.code ({ cls := "FlotationCircuitModel", name := "noFlow", desc := "(II)Z" } : Jvm.MethodName) prog_12_method_49_code (4 : Nat) (Option.some Jvm.ClassFile.FieldType.boolean)) ∈ UW := List.mem_filter.mpr ⟨List.mem_of_getElem? (i := 1148) rfl, rfl⟩
set_option maxRecDepth 100000 in
theorem uw_1149 : (Jvm.Cond.methodLink "FlotationCircuitModel" (166 : Nat) ({ cls := "FlotationCircuitModel", name := "findFlow", desc := "([III)V" } : Jvm.MethodName)) ∈ UW := List.mem_filter.mpr ⟨List.mem_of_getElem? (i := 1149) rfl, rfl⟩
set_option maxRecDepth 100000 in
theorem uw_1151 : (Jvm.Cond.instanceMethod ({ cls := "FlotationCircuitModel", name := "findFlow", desc := "([III)V" } : Jvm.MethodName)) ∈ UW := List.mem_filter.mpr ⟨List.mem_of_getElem? (i := 1151) rfl, rfl⟩
set_option maxRecDepth 100000 in
theorem uw_1152 : (Jvm.Cond.code ({ cls := "FlotationCircuitModel", name := "findFlow", desc := "([III)V" } : Jvm.MethodName) prog_12_method_44_code (7 : Nat) (Option.none : Option Jvm.ClassFile.FieldType)) ∈ UW := List.mem_filter.mpr ⟨List.mem_of_getElem? (i := 1152) rfl, rfl⟩
set_option maxRecDepth 100000 in
theorem uw_1153 : (Jvm.Cond.methodLink "FlotationCircuitModel" (145 : Nat) ({ cls := "FlotationCircuitModel", name := "layMatrix", desc := "([II)V" } : Jvm.MethodName)) ∈ UW := List.mem_filter.mpr ⟨List.mem_of_getElem? (i := 1153) rfl, rfl⟩
set_option maxRecDepth 100000 in
theorem uw_1155 : (Jvm.Cond.instanceMethod ({ cls := "FlotationCircuitModel", name := "layMatrix", desc := "([II)V" } : Jvm.MethodName)) ∈ UW := List.mem_filter.mpr ⟨List.mem_of_getElem? (i := 1155) rfl, rfl⟩
set_option maxRecDepth 100000 in
theorem uw_1156 : (Jvm.Cond.code ({ cls := "FlotationCircuitModel", name := "layMatrix", desc := "([II)V" } : Jvm.MethodName) prog_12_method_42_code (5 : Nat) (Option.none : Option Jvm.ClassFile.FieldType)) ∈ UW := List.mem_filter.mpr ⟨List.mem_of_getElem? (i := 1156) rfl, rfl⟩
set_option maxRecDepth 100000 in
theorem uw_1157 : (Jvm.Cond.methodLink "FlotationCircuitModel" (142 : Nat) ({ cls := "FlotationCircuitModel", name := "part", desc := "([IIII)I" } : Jvm.MethodName)) ∈ UW := List.mem_filter.mpr ⟨List.mem_of_getElem? (i := 1157) rfl, rfl⟩
set_option maxRecDepth 100000 in
theorem uw_1158 : (Jvm.Cond.static ({ cls := "FlotationCircuitModel", name := "part", desc := "([IIII)I" } : Jvm.MethodName)) ∈ UW := List.mem_filter.mpr ⟨List.mem_of_getElem? (i := 1158) rfl, rfl⟩
set_option maxRecDepth 100000 in
theorem uw_1159 : (Jvm.Cond.code ({ cls := "FlotationCircuitModel", name := "part", desc := "([IIII)I" } : Jvm.MethodName) prog_12_method_38_code (6 : Nat) (Option.some Jvm.ClassFile.FieldType.int)) ∈ UW := List.mem_filter.mpr ⟨List.mem_of_getElem? (i := 1159) rfl, rfl⟩
set_option maxRecDepth 100000 in
theorem uw_1160 : (Jvm.Cond.methodLink "FlotationCircuitModel" (149 : Nat) ({ cls := "FlotationCircuitModel", name := "determinant", desc := "(II)J" } : Jvm.MethodName)) ∈ UW := List.mem_filter.mpr ⟨List.mem_of_getElem? (i := 1160) rfl, rfl⟩
set_option maxRecDepth 100000 in
theorem uw_1162 : (Jvm.Cond.instanceMethod ({ cls := "FlotationCircuitModel", name := "determinant", desc := "(II)J" } : Jvm.MethodName)) ∈ UW := List.mem_filter.mpr ⟨List.mem_of_getElem? (i := 1162) rfl, rfl⟩
set_option maxRecDepth 100000 in
theorem uw_1163 : (Jvm.Cond.code ({ cls := "FlotationCircuitModel", name := "determinant", desc := "(II)J" } : Jvm.MethodName) prog_12_method_41_code (11 : Nat) (Option.some Jvm.ClassFile.FieldType.long)) ∈ UW := List.mem_filter.mpr ⟨List.mem_of_getElem? (i := 1163) rfl, rfl⟩
set_option maxRecDepth 100000 in
theorem uw_1164 : (Jvm.Cond.methodLink "FlotationCircuitModel" (160 : Nat) ({ cls := "FlotationCircuitModel", name := "divisor", desc := "(JJ)J" } : Jvm.MethodName)) ∈ UW := List.mem_filter.mpr ⟨List.mem_of_getElem? (i := 1164) rfl, rfl⟩
set_option maxRecDepth 100000 in
theorem uw_1165 : (Jvm.Cond.static ({ cls := "FlotationCircuitModel", name := "divisor", desc := "(JJ)J" } : Jvm.MethodName)) ∈ UW := List.mem_filter.mpr ⟨List.mem_of_getElem? (i := 1165) rfl, rfl⟩
set_option maxRecDepth 100000 in
theorem uw_1166 : (Jvm.Cond.code ({ cls := "FlotationCircuitModel", name := "divisor", desc := "(JJ)J" } : Jvm.MethodName) prog_12_method_43_code (10 : Nat) (Option.some Jvm.ClassFile.FieldType.long)) ∈ UW := List.mem_filter.mpr ⟨List.mem_of_getElem? (i := 1166) rfl, rfl⟩
set_option maxRecDepth 100000 in
theorem uw_1167 : (Jvm.Cond.methodLink "FlotationCircuitLaw" (184 : Nat) ({ cls := "FlotationCircuitModel", name := "flowDenominator", desc := "(II)J" } : Jvm.MethodName)) ∈ UW := List.mem_filter.mpr ⟨List.mem_of_getElem? (i := 1167) rfl, rfl⟩
set_option maxRecDepth 100000 in
theorem uw_1168 : (Jvm.Cond.instanceMethod ({ cls := "FlotationCircuitModel", name := "flowDenominator", desc := "(II)J" } : Jvm.MethodName)) ∈ UW := List.mem_filter.mpr ⟨List.mem_of_getElem? (i := 1168) rfl, rfl⟩
set_option maxRecDepth 100000 in
theorem uw_1169 : (Jvm.Cond.selects "FlotationCircuitModel" ({ cls := "FlotationCircuitModel", name := "flowDenominator", desc := "(II)J" } : Jvm.MethodName) ({ cls := "FlotationCircuitModel", name := "flowDenominator", desc := "(II)J" } : Jvm.MethodName)) ∈ UW := List.mem_filter.mpr ⟨List.mem_of_getElem? (i := 1169) rfl, rfl⟩
set_option maxRecDepth 100000 in
theorem uw_1170 : (Jvm.Cond.code ({ cls := "FlotationCircuitModel", name := "flowDenominator", desc := "(II)J" } : Jvm.MethodName) prog_12_method_51_code (3 : Nat) (Option.some Jvm.ClassFile.FieldType.long)) ∈ UW := List.mem_filter.mpr ⟨List.mem_of_getElem? (i := 1170) rfl, rfl⟩
set_option maxRecDepth 100000 in
theorem uw_1171 : (Jvm.Cond.methodLink "FlotationCircuitLaw" (187 : Nat) ({ cls := "FlotationCircuitModel", name := "totalRecovery", desc := "()I" } : Jvm.MethodName)) ∈ UW := List.mem_filter.mpr ⟨List.mem_of_getElem? (i := 1171) rfl, rfl⟩
set_option maxRecDepth 100000 in
theorem uw_1172 : (Jvm.Cond.instanceMethod ({ cls := "FlotationCircuitModel", name := "totalRecovery", desc := "()I" } : Jvm.MethodName)) ∈ UW := List.mem_filter.mpr ⟨List.mem_of_getElem? (i := 1172) rfl, rfl⟩
set_option maxRecDepth 100000 in
theorem uw_1173 : (Jvm.Cond.selects "FlotationCircuitModel" ({ cls := "FlotationCircuitModel", name := "totalRecovery", desc := "()I" } : Jvm.MethodName) ({ cls := "FlotationCircuitModel", name := "totalRecovery", desc := "()I" } : Jvm.MethodName)) ∈ UW := List.mem_filter.mpr ⟨List.mem_of_getElem? (i := 1173) rfl, rfl⟩
set_option maxRecDepth 100000 in
theorem uw_1174 : (Jvm.Cond.code ({ cls := "FlotationCircuitModel", name := "totalRecovery", desc := "()I" } : Jvm.MethodName) prog_12_method_52_code (1 : Nat) (Option.some Jvm.ClassFile.FieldType.int)) ∈ UW := List.mem_filter.mpr ⟨List.mem_of_getElem? (i := 1174) rfl, rfl⟩
set_option maxRecDepth 100000 in
theorem uw_1175 : (Jvm.Cond.methodLink "FlotationCircuitModel" (183 : Nat) ({ cls := "FlotationCircuitModel", name := "recoveryOf", desc := "([I)I" } : Jvm.MethodName)) ∈ UW := List.mem_filter.mpr ⟨List.mem_of_getElem? (i := 1175) rfl, rfl⟩
set_option maxRecDepth 100000 in
theorem uw_1177 : (Jvm.Cond.instanceMethod ({ cls := "FlotationCircuitModel", name := "recoveryOf", desc := "([I)I" } : Jvm.MethodName)) ∈ UW := List.mem_filter.mpr ⟨List.mem_of_getElem? (i := 1177) rfl, rfl⟩
set_option maxRecDepth 100000 in
theorem uw_1178 : (Jvm.Cond.code ({ cls := "FlotationCircuitModel", name := "recoveryOf", desc := "([I)I" } : Jvm.MethodName) prog_12_method_46_code (3 : Nat) (Option.some Jvm.ClassFile.FieldType.int)) ∈ UW := List.mem_filter.mpr ⟨List.mem_of_getElem? (i := 1178) rfl, rfl⟩
set_option maxRecDepth 100000 in
theorem uw_1179 : (Jvm.Cond.methodLink "FlotationCircuitModel" (170 : Nat) ({ cls := "FlotationCircuitModel", name := "cut", desc := "(JJI)J" } : Jvm.MethodName)) ∈ UW := List.mem_filter.mpr ⟨List.mem_of_getElem? (i := 1179) rfl, rfl⟩
set_option maxRecDepth 100000 in
theorem uw_1180 : (Jvm.Cond.static ({ cls := "FlotationCircuitModel", name := "cut", desc := "(JJI)J" } : Jvm.MethodName)) ∈ UW := List.mem_filter.mpr ⟨List.mem_of_getElem? (i := 1180) rfl, rfl⟩
set_option maxRecDepth 100000 in
theorem uw_1181 : (Jvm.Cond.code ({ cls := "FlotationCircuitModel", name := "cut", desc := "(JJI)J" } : Jvm.MethodName) prog_12_method_45_code (10 : Nat) (Option.some Jvm.ClassFile.FieldType.long)) ∈ UW := List.mem_filter.mpr ⟨List.mem_of_getElem? (i := 1181) rfl, rfl⟩
set_option maxRecDepth 100000 in
theorem uw_1182 : (Jvm.Cond.constantLong "FlotationCircuitModel" (164 : Nat) (10 : Int64)) ∈ UW := List.mem_filter.mpr ⟨List.mem_of_getElem? (i := 1182) rfl, rfl⟩
set_option maxRecDepth 100000 in
theorem uw_1183 : (Jvm.Cond.methodLink "FlotationCircuitLaw" (190 : Nat) ({ cls := "FlotationCircuitModel", name := "grade", desc := "()I" } : Jvm.MethodName)) ∈ UW := List.mem_filter.mpr ⟨List.mem_of_getElem? (i := 1183) rfl, rfl⟩
set_option maxRecDepth 100000 in
theorem uw_1184 : (Jvm.Cond.instanceMethod ({ cls := "FlotationCircuitModel", name := "grade", desc := "()I" } : Jvm.MethodName)) ∈ UW := List.mem_filter.mpr ⟨List.mem_of_getElem? (i := 1184) rfl, rfl⟩
set_option maxRecDepth 100000 in
theorem uw_1185 : (Jvm.Cond.selects "FlotationCircuitModel" ({ cls := "FlotationCircuitModel", name := "grade", desc := "()I" } : Jvm.MethodName) ({ cls := "FlotationCircuitModel", name := "grade", desc := "()I" } : Jvm.MethodName)) ∈ UW := List.mem_filter.mpr ⟨List.mem_of_getElem? (i := 1185) rfl, rfl⟩
set_option maxRecDepth 100000 in
theorem uw_1186 : (Jvm.Cond.code ({ cls := "FlotationCircuitModel", name := "grade", desc := "()I" } : Jvm.MethodName) prog_12_method_53_code (1 : Nat) (Option.some Jvm.ClassFile.FieldType.int)) ∈ UW := List.mem_filter.mpr ⟨List.mem_of_getElem? (i := 1186) rfl, rfl⟩
set_option maxRecDepth 100000 in
theorem uw_1187 : (Jvm.Cond.methodLink "FlotationCircuitModel" (187 : Nat) ({ cls := "FlotationCircuitModel", name := "gradeOf", desc := "([I)I" } : Jvm.MethodName)) ∈ UW := List.mem_filter.mpr ⟨List.mem_of_getElem? (i := 1187) rfl, rfl⟩
set_option maxRecDepth 100000 in
theorem uw_1189 : (Jvm.Cond.instanceMethod ({ cls := "FlotationCircuitModel", name := "gradeOf", desc := "([I)I" } : Jvm.MethodName)) ∈ UW := List.mem_filter.mpr ⟨List.mem_of_getElem? (i := 1189) rfl, rfl⟩
set_option maxRecDepth 100000 in
theorem uw_1190 : (Jvm.Cond.code ({ cls := "FlotationCircuitModel", name := "gradeOf", desc := "([I)I" } : Jvm.MethodName) prog_12_method_47_code (6 : Nat) (Option.some Jvm.ClassFile.FieldType.int)) ∈ UW := List.mem_filter.mpr ⟨List.mem_of_getElem? (i := 1190) rfl, rfl⟩
set_option maxRecDepth 100000 in
theorem uw_1191 : (Jvm.Cond.constantLong "FlotationCircuitModel" (174 : Nat) (1000 : Int64)) ∈ UW := List.mem_filter.mpr ⟨List.mem_of_getElem? (i := 1191) rfl, rfl⟩
set_option maxRecDepth 100000 in
theorem uw_1192 : (Jvm.Cond.methodLink "FlotationCircuitLaw" (193 : Nat) ({ cls := "FlotationCircuitModel", name := "isInLoop", desc := "(I)Z" } : Jvm.MethodName)) ∈ UW := List.mem_filter.mpr ⟨List.mem_of_getElem? (i := 1192) rfl, rfl⟩
set_option maxRecDepth 100000 in
theorem uw_1193 : (Jvm.Cond.instanceMethod ({ cls := "FlotationCircuitModel", name := "isInLoop", desc := "(I)Z" } : Jvm.MethodName)) ∈ UW := List.mem_filter.mpr ⟨List.mem_of_getElem? (i := 1193) rfl, rfl⟩
set_option maxRecDepth 100000 in
theorem uw_1194 : (Jvm.Cond.selects "FlotationCircuitModel" ({ cls := "FlotationCircuitModel", name := "isInLoop", desc := "(I)Z" } : Jvm.MethodName) ({ cls := "FlotationCircuitModel", name := "isInLoop", desc := "(I)Z" } : Jvm.MethodName)) ∈ UW := List.mem_filter.mpr ⟨List.mem_of_getElem? (i := 1194) rfl, rfl⟩
set_option maxRecDepth 100000 in
theorem uw_1195 : (Jvm.Cond.code ({ cls := "FlotationCircuitModel", name := "isInLoop", desc := "(I)Z" } : Jvm.MethodName) prog_12_method_56_code (2 : Nat) (Option.some Jvm.ClassFile.FieldType.boolean)) ∈ UW := List.mem_filter.mpr ⟨List.mem_of_getElem? (i := 1195) rfl, rfl⟩
set_option maxRecDepth 100000 in
theorem uw_1196 : (Jvm.Cond.methodLink "FlotationCircuitModel" (194 : Nat) ({ cls := "FlotationCircuitModel", name := "isLooped", desc := "(I)Z" } : Jvm.MethodName)) ∈ UW := List.mem_filter.mpr ⟨List.mem_of_getElem? (i := 1196) rfl, rfl⟩
set_option maxRecDepth 100000 in
theorem uw_1198 : (Jvm.Cond.instanceMethod ({ cls := "FlotationCircuitModel", name := "isLooped", desc := "(I)Z" } : Jvm.MethodName)) ∈ UW := List.mem_filter.mpr ⟨List.mem_of_getElem? (i := 1198) rfl, rfl⟩
set_option maxRecDepth 100000 in
theorem uw_1199 : (Jvm.Cond.code ({ cls := "FlotationCircuitModel", name := "isLooped", desc := "(I)Z" } : Jvm.MethodName) prog_12_method_55_code (2 : Nat) (Option.some Jvm.ClassFile.FieldType.boolean)) ∈ UW := List.mem_filter.mpr ⟨List.mem_of_getElem? (i := 1199) rfl, rfl⟩
set_option maxRecDepth 100000 in
theorem uw_1200 : (Jvm.Cond.methodLink "FlotationCircuitModel" (190 : Nat) ({ cls := "FlotationCircuitModel", name := "reached", desc := "(I)I" } : Jvm.MethodName)) ∈ UW := List.mem_filter.mpr ⟨List.mem_of_getElem? (i := 1200) rfl, rfl⟩
set_option maxRecDepth 100000 in
theorem uw_1202 : (Jvm.Cond.instanceMethod ({ cls := "FlotationCircuitModel", name := "reached", desc := "(I)I" } : Jvm.MethodName)) ∈ UW := List.mem_filter.mpr ⟨List.mem_of_getElem? (i := 1202) rfl, rfl⟩
set_option maxRecDepth 100000 in
theorem uw_1203 : (Jvm.Cond.code ({ cls := "FlotationCircuitModel", name := "reached", desc := "(I)I" } : Jvm.MethodName) prog_12_method_54_code (9 : Nat) (Option.some Jvm.ClassFile.FieldType.int)) ∈ UW := List.mem_filter.mpr ⟨List.mem_of_getElem? (i := 1203) rfl, rfl⟩
set_option maxRecDepth 100000 in
theorem uw_1204 : (Jvm.Cond.methodLink "FlotationCircuitLaw" (197 : Nat) ({ cls := "FlotationCircuitModel", name := "loopCount", desc := "()I" } : Jvm.MethodName)) ∈ UW := List.mem_filter.mpr ⟨List.mem_of_getElem? (i := 1204) rfl, rfl⟩
set_option maxRecDepth 100000 in
theorem uw_1205 : (Jvm.Cond.instanceMethod ({ cls := "FlotationCircuitModel", name := "loopCount", desc := "()I" } : Jvm.MethodName)) ∈ UW := List.mem_filter.mpr ⟨List.mem_of_getElem? (i := 1205) rfl, rfl⟩
set_option maxRecDepth 100000 in
theorem uw_1206 : (Jvm.Cond.selects "FlotationCircuitModel" ({ cls := "FlotationCircuitModel", name := "loopCount", desc := "()I" } : Jvm.MethodName) ({ cls := "FlotationCircuitModel", name := "loopCount", desc := "()I" } : Jvm.MethodName)) ∈ UW := List.mem_filter.mpr ⟨List.mem_of_getElem? (i := 1206) rfl, rfl⟩
set_option maxRecDepth 100000 in
theorem uw_1207 : (Jvm.Cond.code ({ cls := "FlotationCircuitModel", name := "loopCount", desc := "()I" } : Jvm.MethodName) prog_12_method_57_code (5 : Nat) (Option.some Jvm.ClassFile.FieldType.int)) ∈ UW := List.mem_filter.mpr ⟨List.mem_of_getElem? (i := 1207) rfl, rfl⟩
set_option maxRecDepth 100000 in
theorem uw_1208 : (Jvm.Cond.methodLink "FlotationCircuitLaw" (201 : Nat) ({ cls := "FlotationCircuitModel", name := "bestImprovement", desc := "()I" } : Jvm.MethodName)) ∈ UW := List.mem_filter.mpr ⟨List.mem_of_getElem? (i := 1208) rfl, rfl⟩
set_option maxRecDepth 100000 in
theorem uw_1209 : (Jvm.Cond.instanceMethod ({ cls := "FlotationCircuitModel", name := "bestImprovement", desc := "()I" } : Jvm.MethodName)) ∈ UW := List.mem_filter.mpr ⟨List.mem_of_getElem? (i := 1209) rfl, rfl⟩
set_option maxRecDepth 100000 in
theorem uw_1210 : (Jvm.Cond.selects "FlotationCircuitModel" ({ cls := "FlotationCircuitModel", name := "bestImprovement", desc := "()I" } : Jvm.MethodName) ({ cls := "FlotationCircuitModel", name := "bestImprovement", desc := "()I" } : Jvm.MethodName)) ∈ UW := List.mem_filter.mpr ⟨List.mem_of_getElem? (i := 1210) rfl, rfl⟩
set_option maxRecDepth 100000 in
theorem uw_1211 : (Jvm.Cond.code ({ cls := "FlotationCircuitModel", name := "bestImprovement", desc := "()I" } : Jvm.MethodName) prog_12_method_59_code (1 : Nat) (Option.some Jvm.ClassFile.FieldType.int)) ∈ UW := List.mem_filter.mpr ⟨List.mem_of_getElem? (i := 1211) rfl, rfl⟩
set_option maxRecDepth 100000 in
theorem uw_1212 : (Jvm.Cond.methodLink "FlotationCircuitModel" (197 : Nat) ({ cls := "FlotationCircuitModel", name := "best", desc := "(Z)I" } : Jvm.MethodName)) ∈ UW := List.mem_filter.mpr ⟨List.mem_of_getElem? (i := 1212) rfl, rfl⟩
set_option maxRecDepth 100000 in
theorem uw_1214 : (Jvm.Cond.instanceMethod ({ cls := "FlotationCircuitModel", name := "best", desc := "(Z)I" } : Jvm.MethodName)) ∈ UW := List.mem_filter.mpr ⟨List.mem_of_getElem? (i := 1214) rfl, rfl⟩
set_option maxRecDepth 100000 in
theorem uw_1215 : (Jvm.Cond.code ({ cls := "FlotationCircuitModel", name := "best", desc := "(Z)I" } : Jvm.MethodName) prog_12_method_58_code (7 : Nat) (Option.some Jvm.ClassFile.FieldType.int)) ∈ UW := List.mem_filter.mpr ⟨List.mem_of_getElem? (i := 1215) rfl, rfl⟩
set_option maxRecDepth 100000 in
theorem uw_1216 : (Jvm.Cond.methodLink "FlotationCircuitLaw" (205 : Nat) ({ cls := "FlotationCircuitModel", name := "bestShutdown", desc := "()I" } : Jvm.MethodName)) ∈ UW := List.mem_filter.mpr ⟨List.mem_of_getElem? (i := 1216) rfl, rfl⟩
set_option maxRecDepth 100000 in
theorem uw_1217 : (Jvm.Cond.instanceMethod ({ cls := "FlotationCircuitModel", name := "bestShutdown", desc := "()I" } : Jvm.MethodName)) ∈ UW := List.mem_filter.mpr ⟨List.mem_of_getElem? (i := 1217) rfl, rfl⟩
set_option maxRecDepth 100000 in
theorem uw_1218 : (Jvm.Cond.selects "FlotationCircuitModel" ({ cls := "FlotationCircuitModel", name := "bestShutdown", desc := "()I" } : Jvm.MethodName) ({ cls := "FlotationCircuitModel", name := "bestShutdown", desc := "()I" } : Jvm.MethodName)) ∈ UW := List.mem_filter.mpr ⟨List.mem_of_getElem? (i := 1218) rfl, rfl⟩
set_option maxRecDepth 100000 in
theorem uw_1219 : (Jvm.Cond.code ({ cls := "FlotationCircuitModel", name := "bestShutdown", desc := "()I" } : Jvm.MethodName) prog_12_method_60_code (1 : Nat) (Option.some Jvm.ClassFile.FieldType.int)) ∈ UW := List.mem_filter.mpr ⟨List.mem_of_getElem? (i := 1219) rfl, rfl⟩
set_option maxRecDepth 100000 in
theorem uw_1220 : (Jvm.Cond.methodLink "FlotationCircuitLaw" (208 : Nat) ({ cls := "FlotationCircuitModel", name := "recoveryFor", desc := "(II)I" } : Jvm.MethodName)) ∈ UW := List.mem_filter.mpr ⟨List.mem_of_getElem? (i := 1220) rfl, rfl⟩
set_option maxRecDepth 100000 in
theorem uw_1221 : (Jvm.Cond.instanceMethod ({ cls := "FlotationCircuitModel", name := "recoveryFor", desc := "(II)I" } : Jvm.MethodName)) ∈ UW := List.mem_filter.mpr ⟨List.mem_of_getElem? (i := 1221) rfl, rfl⟩
set_option maxRecDepth 100000 in
theorem uw_1222 : (Jvm.Cond.selects "FlotationCircuitModel" ({ cls := "FlotationCircuitModel", name := "recoveryFor", desc := "(II)I" } : Jvm.MethodName) ({ cls := "FlotationCircuitModel", name := "recoveryFor", desc := "(II)I" } : Jvm.MethodName)) ∈ UW := List.mem_filter.mpr ⟨List.mem_of_getElem? (i := 1222) rfl, rfl⟩
set_option maxRecDepth 100000 in
theorem uw_1223 : (Jvm.Cond.code ({ cls := "FlotationCircuitModel", name := "recoveryFor", desc := "(II)I" } : Jvm.MethodName) prog_12_method_61_code (4 : Nat) (Option.some Jvm.ClassFile.FieldType.int)) ∈ UW := List.mem_filter.mpr ⟨List.mem_of_getElem? (i := 1223) rfl, rfl⟩
set_option maxRecDepth 100000 in
theorem uw_1224 : (Jvm.Cond.methodLink "FlotationCircuitLaw" (211 : Nat) ({ cls := "FlotationCircuitModel", name := "measure", desc := "(II)I" } : Jvm.MethodName)) ∈ UW := List.mem_filter.mpr ⟨List.mem_of_getElem? (i := 1224) rfl, rfl⟩
set_option maxRecDepth 100000 in
theorem uw_1225 : (Jvm.Cond.instanceMethod ({ cls := "FlotationCircuitModel", name := "measure", desc := "(II)I" } : Jvm.MethodName)) ∈ UW := List.mem_filter.mpr ⟨List.mem_of_getElem? (i := 1225) rfl, rfl⟩
set_option maxRecDepth 100000 in
theorem uw_1226 : (Jvm.Cond.selects "FlotationCircuitModel" ({ cls := "FlotationCircuitModel", name := "measure", desc := "(II)I" } : Jvm.MethodName) ({ cls := "FlotationCircuitModel", name := "measure", desc := "(II)I" } : Jvm.MethodName)) ∈ UW := List.mem_filter.mpr ⟨List.mem_of_getElem? (i := 1226) rfl, rfl⟩
set_option maxRecDepth 100000 in
theorem uw_1227 : (Jvm.Cond.code ({ cls := "FlotationCircuitModel", name := "measure", desc := "(II)I" } : Jvm.MethodName) prog_12_method_62_code (4 : Nat) (Option.some Jvm.ClassFile.FieldType.int)) ∈ UW := List.mem_filter.mpr ⟨List.mem_of_getElem? (i := 1227) rfl, rfl⟩
set_option maxRecDepth 100000 in
theorem uw_1228 : (Jvm.Cond.methodLink "FlotationCircuitLaw" (214 : Nat) ({ cls := "FlotationCircuitModel", name := "possibleRecoveries", desc := "(II)I" } : Jvm.MethodName)) ∈ UW := List.mem_filter.mpr ⟨List.mem_of_getElem? (i := 1228) rfl, rfl⟩
set_option maxRecDepth 100000 in
theorem uw_1229 : (Jvm.Cond.instanceMethod ({ cls := "FlotationCircuitModel", name := "possibleRecoveries", desc := "(II)I" } : Jvm.MethodName)) ∈ UW := List.mem_filter.mpr ⟨List.mem_of_getElem? (i := 1229) rfl, rfl⟩
set_option maxRecDepth 100000 in
theorem uw_1230 : (Jvm.Cond.selects "FlotationCircuitModel" ({ cls := "FlotationCircuitModel", name := "possibleRecoveries", desc := "(II)I" } : Jvm.MethodName) ({ cls := "FlotationCircuitModel", name := "possibleRecoveries", desc := "(II)I" } : Jvm.MethodName)) ∈ UW := List.mem_filter.mpr ⟨List.mem_of_getElem? (i := 1230) rfl, rfl⟩
set_option maxRecDepth 100000 in
theorem uw_1231 : (Jvm.Cond.code ({ cls := "FlotationCircuitModel", name := "possibleRecoveries", desc := "(II)I" } : Jvm.MethodName) prog_12_method_64_code (5 : Nat) (Option.some Jvm.ClassFile.FieldType.int)) ∈ UW := List.mem_filter.mpr ⟨List.mem_of_getElem? (i := 1231) rfl, rfl⟩
set_option maxRecDepth 100000 in
theorem uw_1232 : (Jvm.Cond.methodLink "FlotationCircuitModel" (204 : Nat) ({ cls := "FlotationCircuitModel", name := "isMeasured", desc := "()Z" } : Jvm.MethodName)) ∈ UW := List.mem_filter.mpr ⟨List.mem_of_getElem? (i := 1232) rfl, rfl⟩
set_option maxRecDepth 100000 in
theorem uw_1234 : (Jvm.Cond.instanceMethod ({ cls := "FlotationCircuitModel", name := "isMeasured", desc := "()Z" } : Jvm.MethodName)) ∈ UW := List.mem_filter.mpr ⟨List.mem_of_getElem? (i := 1234) rfl, rfl⟩
set_option maxRecDepth 100000 in
theorem uw_1235 : (Jvm.Cond.code ({ cls := "FlotationCircuitModel", name := "isMeasured", desc := "()Z" } : Jvm.MethodName) prog_12_method_63_code (3 : Nat) (Option.some Jvm.ClassFile.FieldType.boolean)) ∈ UW := List.mem_filter.mpr ⟨List.mem_of_getElem? (i := 1235) rfl, rfl⟩
set_option maxRecDepth 100000 in
theorem uw_1236 : (Jvm.Cond.methodLink "FlotationCircuitLaw" (220 : Nat) ({ cls := "FlotationCircuitModel", name := "disturb", desc := "(JI)I" } : Jvm.MethodName)) ∈ UW := List.mem_filter.mpr ⟨List.mem_of_getElem? (i := 1236) rfl, rfl⟩
set_option maxRecDepth 100000 in
theorem uw_1237 : (Jvm.Cond.instanceMethod ({ cls := "FlotationCircuitModel", name := "disturb", desc := "(JI)I" } : Jvm.MethodName)) ∈ UW := List.mem_filter.mpr ⟨List.mem_of_getElem? (i := 1237) rfl, rfl⟩
set_option maxRecDepth 100000 in
theorem uw_1238 : (Jvm.Cond.selects "FlotationCircuitModel" ({ cls := "FlotationCircuitModel", name := "disturb", desc := "(JI)I" } : Jvm.MethodName) ({ cls := "FlotationCircuitModel", name := "disturb", desc := "(JI)I" } : Jvm.MethodName)) ∈ UW := List.mem_filter.mpr ⟨List.mem_of_getElem? (i := 1238) rfl, rfl⟩
set_option maxRecDepth 100000 in
theorem uw_1239 : (Jvm.Cond.code ({ cls := "FlotationCircuitModel", name := "disturb", desc := "(JI)I" } : Jvm.MethodName) prog_12_method_65_code (8 : Nat) (Option.some Jvm.ClassFile.FieldType.int)) ∈ UW := List.mem_filter.mpr ⟨List.mem_of_getElem? (i := 1239) rfl, rfl⟩
set_option maxRecDepth 100000 in
theorem uw_1240 : (Jvm.Cond.constantLong "FlotationCircuitModel" (207 : Nat) (6364136223846793005 : Int64)) ∈ UW := List.mem_filter.mpr ⟨List.mem_of_getElem? (i := 1240) rfl, rfl⟩
set_option maxRecDepth 100000 in
theorem uw_1241 : (Jvm.Cond.constantLong "FlotationCircuitModel" (209 : Nat) (1442695040888963407 : Int64)) ∈ UW := List.mem_filter.mpr ⟨List.mem_of_getElem? (i := 1241) rfl, rfl⟩
set_option maxRecDepth 100000 in
theorem uw_1242 : (Jvm.Cond.methodLink "FlotationCircuitLaw" (223 : Nat) ({ cls := "FlotationCircuitModel", name := "save", desc := "(I)I" } : Jvm.MethodName)) ∈ UW := List.mem_filter.mpr ⟨List.mem_of_getElem? (i := 1242) rfl, rfl⟩
set_option maxRecDepth 100000 in
theorem uw_1243 : (Jvm.Cond.instanceMethod ({ cls := "FlotationCircuitModel", name := "save", desc := "(I)I" } : Jvm.MethodName)) ∈ UW := List.mem_filter.mpr ⟨List.mem_of_getElem? (i := 1243) rfl, rfl⟩
set_option maxRecDepth 100000 in
theorem uw_1244 : (Jvm.Cond.selects "FlotationCircuitModel" ({ cls := "FlotationCircuitModel", name := "save", desc := "(I)I" } : Jvm.MethodName) ({ cls := "FlotationCircuitModel", name := "save", desc := "(I)I" } : Jvm.MethodName)) ∈ UW := List.mem_filter.mpr ⟨List.mem_of_getElem? (i := 1244) rfl, rfl⟩
set_option maxRecDepth 100000 in
theorem uw_1245 : (Jvm.Cond.code ({ cls := "FlotationCircuitModel", name := "save", desc := "(I)I" } : Jvm.MethodName) prog_12_method_66_code (3 : Nat) (Option.some Jvm.ClassFile.FieldType.int)) ∈ UW := List.mem_filter.mpr ⟨List.mem_of_getElem? (i := 1245) rfl, rfl⟩
set_option maxRecDepth 100000 in
theorem uw_1246 : (Jvm.Cond.methodLink "FlotationCircuitLaw" (226 : Nat) ({ cls := "FlotationCircuitModel", name := "restore", desc := "(I)I" } : Jvm.MethodName)) ∈ UW := List.mem_filter.mpr ⟨List.mem_of_getElem? (i := 1246) rfl, rfl⟩
set_option maxRecDepth 100000 in
theorem uw_1247 : (Jvm.Cond.instanceMethod ({ cls := "FlotationCircuitModel", name := "restore", desc := "(I)I" } : Jvm.MethodName)) ∈ UW := List.mem_filter.mpr ⟨List.mem_of_getElem? (i := 1247) rfl, rfl⟩
set_option maxRecDepth 100000 in
theorem uw_1248 : (Jvm.Cond.selects "FlotationCircuitModel" ({ cls := "FlotationCircuitModel", name := "restore", desc := "(I)I" } : Jvm.MethodName) ({ cls := "FlotationCircuitModel", name := "restore", desc := "(I)I" } : Jvm.MethodName)) ∈ UW := List.mem_filter.mpr ⟨List.mem_of_getElem? (i := 1248) rfl, rfl⟩
set_option maxRecDepth 100000 in
theorem uw_1249 : (Jvm.Cond.code ({ cls := "FlotationCircuitModel", name := "restore", desc := "(I)I" } : Jvm.MethodName) prog_12_method_67_code (3 : Nat) (Option.some Jvm.ClassFile.FieldType.int)) ∈ UW := List.mem_filter.mpr ⟨List.mem_of_getElem? (i := 1249) rfl, rfl⟩
set_option maxRecDepth 100000 in
theorem uw_1250 : (Jvm.Cond.constantLong "FlotationCircuitLaw" (215 : Nat) (4294967295 : Int64)) ∈ UW := List.mem_filter.mpr ⟨List.mem_of_getElem? (i := 1250) rfl, rfl⟩
set_option maxRecDepth 100000 in
theorem uw_1251 : (Jvm.Cond.sameMethod "java/lang/Throwable" "java/lang/Throwable" "fillInStackTrace" "(I)Ljava/lang/Throwable;") ∈ UW := List.mem_filter.mpr ⟨List.mem_of_getElem? (i := 1251) rfl, rfl⟩
