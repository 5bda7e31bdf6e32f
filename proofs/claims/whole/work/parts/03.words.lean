/-! words of the tables, by their places -/
theorem wp_0 : Cond.selects R_X y_X_leastFree y_X_leastFree ∈ kn_T := kn_m (List.mem_append_left _ (List.mem_of_getElem? (i := 0) rfl)) rfl
theorem wp_1 : Cond.selects R_X y_X_makeReady y_X_makeReady ∈ kn_T := kn_m (List.mem_append_left _ (List.mem_of_getElem? (i := 1) rfl)) rfl
theorem wp_2 : Cond.selects R_X y_X_runner y_X_runner ∈ kn_T := kn_m (List.mem_append_left _ (List.mem_of_getElem? (i := 2) rfl)) rfl
theorem wp_3 : Cond.selects R_X y_X_foremost y_X_foremost ∈ kn_T := kn_m (List.mem_append_left _ (List.mem_of_getElem? (i := 3) rfl)) rfl
theorem wp_4 : Cond.selects R_X y_X_workOutEffective y_X_workOutEffective ∈ kn_T := kn_m (List.mem_append_left _ (List.mem_of_getElem? (i := 4) rfl)) rfl
theorem wp_5 : Cond.selects R_X y_X_inheritOnce y_X_inheritOnce ∈ kn_T := kn_m (List.mem_append_left _ (List.mem_of_getElem? (i := 5) rfl)) rfl
theorem wp_6 : Cond.selects R_X y_X_heirOf y_X_heirOf ∈ kn_T := kn_m (List.mem_append_left _ (List.mem_of_getElem? (i := 6) rfl)) rfl
theorem wp_7 : Cond.selects R_X y_X_startTurn y_X_startTurn ∈ kn_T := kn_m (List.mem_append_left _ (List.mem_of_getElem? (i := 7) rfl)) rfl
theorem wp_8 : Cond.selects R_X y_X_take y_X_take ∈ kn_T := kn_m (List.mem_append_left _ (List.mem_of_getElem? (i := 8) rfl)) rfl
theorem wp_9 : Cond.selects R_X y_X_makeOwner y_X_makeOwner ∈ kn_T := kn_m (List.mem_append_left _ (List.mem_of_getElem? (i := 9) rfl)) rfl
theorem wp_10 : Cond.selects R_X y_X_block y_X_block ∈ kn_T := kn_m (List.mem_append_left _ (List.mem_of_getElem? (i := 10) rfl)) rfl
theorem wp_11 : Cond.selects R_X y_X_give y_X_give ∈ kn_T := kn_m (List.mem_append_left _ (List.mem_of_getElem? (i := 11) rfl)) rfl
theorem wp_12 : Cond.selects R_X y_X_firstWaiter y_X_firstWaiter ∈ kn_T := kn_m (List.mem_append_left _ (List.mem_of_getElem? (i := 12) rfl)) rfl
theorem wp_13 : Cond.selects R_X y_X_deadlineAfter y_X_deadlineAfter ∈ kn_T := kn_m (List.mem_append_left _ (List.mem_of_getElem? (i := 13) rfl)) rfl
theorem wp_14 : Cond.selects R_X y_X_endAwait y_X_endAwait ∈ kn_T := kn_m (List.mem_append_left _ (List.mem_of_getElem? (i := 14) rfl)) rfl
theorem wp_15 : Cond.selects R_X y_X_arrive y_X_arrive ∈ kn_T := kn_m (List.mem_append_left _ (List.mem_of_getElem? (i := 15) rfl)) rfl
theorem wp_16 : Cond.selects R_X y_X_ownsAny y_X_ownsAny ∈ kn_T := kn_m (List.mem_append_left _ (List.mem_of_getElem? (i := 16) rfl)) rfl
theorem wp_17 : Cond.selects R_X y_X_tickOnce y_X_tickOnce ∈ kn_T := kn_m (List.mem_append_left _ (List.mem_of_getElem? (i := 17) rfl)) rfl
theorem wp_18 : Cond.selects R_X y_X_useTick y_X_useTick ∈ kn_T := kn_m (List.mem_append_left _ (List.mem_of_getElem? (i := 18) rfl)) rfl
theorem wp_19 : Cond.selects R_X y_X_endWait y_X_endWait ∈ kn_T := kn_m (List.mem_append_left _ (List.mem_of_getElem? (i := 19) rfl)) rfl
theorem wp_20 : Cond.selects R_X y_X_readyThreads y_X_readyThreads ∈ kn_T := kn_m (List.mem_append_left _ (List.mem_of_getElem? (i := 20) rfl)) rfl
theorem wp_21 : Cond.selects R_M y_M_weigh y_M_weigh ∈ kn_T := kn_m (List.mem_append_left _ (List.mem_of_getElem? (i := 21) rfl)) rfl
theorem wp_22 : Cond.selects R_M y_M_ready y_M_ready ∈ kn_T := kn_m (List.mem_append_left _ (List.mem_of_getElem? (i := 22) rfl)) rfl
theorem wp_23 : Cond.selects R_M y_M_newStamp y_M_newStamp ∈ kn_T := kn_m (List.mem_append_left _ (List.mem_of_getElem? (i := 23) rfl)) rfl
theorem wp_24 : Cond.selects R_M y_M_out y_M_out ∈ kn_T := kn_m (List.mem_append_left _ (List.mem_of_getElem? (i := 24) rfl)) rfl
theorem wp_25 : Cond.selects R_M y_M_block y_M_block ∈ kn_T := kn_m (List.mem_append_left _ (List.mem_of_getElem? (i := 25) rfl)) rfl
theorem wp_26 : Cond.selects R_M y_M_give y_M_give ∈ kn_T := kn_m (List.mem_append_left _ (List.mem_of_getElem? (i := 26) rfl)) rfl
theorem wp_27 : Cond.selects R_M y_M_firstWaiter y_M_firstWaiter ∈ kn_T := kn_m (List.mem_append_left _ (List.mem_of_getElem? (i := 27) rfl)) rfl
theorem wp_28 : Cond.selects R_M y_M_retake y_M_retake ∈ kn_T := kn_m (List.mem_append_left _ (List.mem_of_getElem? (i := 28) rfl)) rfl
theorem wp_29 : Cond.selects R_M y_M_comeIn y_M_comeIn ∈ kn_T := kn_m (List.mem_append_left _ (List.mem_of_getElem? (i := 29) rfl)) rfl
theorem wp_30 : Cond.selects R_M y_M_deadlineComes y_M_deadlineComes ∈ kn_T := kn_m (List.mem_append_left _ (List.mem_of_getElem? (i := 30) rfl)) rfl
theorem wd_0 : (Cond.initialized "PriorityKernelLaw") ∈ kn_T := kn_m (List.mem_append_right _ (List.mem_of_getElem? (i := 0) rfl)) rfl
theorem wd_1 : (Cond.initialized "PriorityKernel") ∈ kn_T := kn_m (List.mem_append_right _ (List.mem_of_getElem? (i := 1) rfl)) rfl
theorem wd_2 : (Cond.initialized "java/lang/Math") ∈ kn_T := kn_m (List.mem_append_right _ (List.mem_of_getElem? (i := 2) rfl)) rfl
theorem wd_3 : (Cond.initialized "PriorityKernel$Task") ∈ kn_T := kn_m (List.mem_append_right _ (List.mem_of_getElem? (i := 3) rfl)) rfl
theorem wd_4 : (Cond.initialized "PriorityKernel$MessageQueue") ∈ kn_T := kn_m (List.mem_append_right _ (List.mem_of_getElem? (i := 4) rfl)) rfl
theorem wd_5 : (Cond.initialized "PriorityKernelModel") ∈ kn_T := kn_m (List.mem_append_right _ (List.mem_of_getElem? (i := 5) rfl)) rfl
theorem wd_6 : (Cond.classLink "PriorityKernelLaw" (7 : Nat) "PriorityKernel") ∈ kn_T := kn_m (List.mem_append_right _ (List.mem_of_getElem? (i := 6) rfl)) rfl
theorem wd_7 : (Cond.instantiable "PriorityKernel" (8 : Nat)) ∈ kn_T := kn_m (List.mem_append_right _ (List.mem_of_getElem? (i := 7) rfl)) rfl
theorem wd_8 : (Cond.methodLink "PriorityKernelLaw" (15 : Nat) ({ cls := "PriorityKernel", name := "<init>", desc := "(II)V" } : MethodName)) ∈ kn_T := kn_m (List.mem_append_right _ (List.mem_of_getElem? (i := 8) rfl)) rfl
theorem wd_9 : (Cond.instanceMethod ({ cls := "PriorityKernel", name := "<init>", desc := "(II)V" } : MethodName)) ∈ kn_T := kn_m (List.mem_append_right _ (List.mem_of_getElem? (i := 9) rfl)) rfl
theorem wd_10 : (Cond.code ({ cls := "PriorityKernel", name := "<init>", desc := "(II)V" } : MethodName) prog_1_method_1_code (4 : Nat) (Option.none : Option FieldType)) ∈ kn_T := kn_m (List.mem_append_right _ (List.mem_of_getElem? (i := 10) rfl)) rfl
theorem wd_11 : (Cond.methodLink "PriorityKernel" (1 : Nat) ({ cls := "java/lang/Object", name := "<init>", desc := "()V" } : MethodName)) ∈ kn_T := kn_m (List.mem_append_right _ (List.mem_of_getElem? (i := 11) rfl)) rfl
theorem wd_12 : (Cond.instanceMethod ({ cls := "java/lang/Object", name := "<init>", desc := "()V" } : MethodName)) ∈ kn_T := kn_m (List.mem_append_right _ (List.mem_of_getElem? (i := 12) rfl)) rfl
theorem wd_13 : (Cond.code ({ cls := "java/lang/Object", name := "<init>", desc := "()V" } : MethodName) object_method_1_code (1 : Nat) (Option.none : Option FieldType)) ∈ kn_T := kn_m (List.mem_append_right _ (List.mem_of_getElem? (i := 13) rfl)) rfl
theorem wd_14 : (Cond.classLink "PriorityKernel" (9 : Nat) "PriorityKernel$Task") ∈ kn_T := kn_m (List.mem_append_right _ (List.mem_of_getElem? (i := 14) rfl)) rfl
theorem wd_16 : (Cond.classLink "PriorityKernel" (22 : Nat) "PriorityKernel$MessageQueue") ∈ kn_T := kn_m (List.mem_append_right _ (List.mem_of_getElem? (i := 16) rfl)) rfl
theorem wd_18 : (Cond.methodLink "PriorityKernel" (36 : Nat) ({ cls := "java/lang/Math", name := "min", desc := "(II)I" } : MethodName)) ∈ kn_T := kn_m (List.mem_append_right _ (List.mem_of_getElem? (i := 18) rfl)) rfl
theorem wd_19 : (Cond.static ({ cls := "java/lang/Math", name := "min", desc := "(II)I" } : MethodName)) ∈ kn_T := kn_m (List.mem_append_right _ (List.mem_of_getElem? (i := 19) rfl)) rfl
theorem wd_20 : (Cond.code ({ cls := "java/lang/Math", name := "min", desc := "(II)I" } : MethodName) prog_6_method_69_code (2 : Nat) (Option.some FieldType.int)) ∈ kn_T := kn_m (List.mem_append_right _ (List.mem_of_getElem? (i := 20) rfl)) rfl
theorem wd_21 : (Cond.methodLink "PriorityKernel" (42 : Nat) ({ cls := "java/lang/Math", name := "max", desc := "(II)I" } : MethodName)) ∈ kn_T := kn_m (List.mem_append_right _ (List.mem_of_getElem? (i := 21) rfl)) rfl
theorem wd_22 : (Cond.static ({ cls := "java/lang/Math", name := "max", desc := "(II)I" } : MethodName)) ∈ kn_T := kn_m (List.mem_append_right _ (List.mem_of_getElem? (i := 22) rfl)) rfl
theorem wd_23 : (Cond.code ({ cls := "java/lang/Math", name := "max", desc := "(II)I" } : MethodName) prog_6_method_65_code (2 : Nat) (Option.some FieldType.int)) ∈ kn_T := kn_m (List.mem_append_right _ (List.mem_of_getElem? (i := 23) rfl)) rfl
theorem wd_24 : (Cond.instantiable "PriorityKernel$Task" (14 : Nat)) ∈ kn_T := kn_m (List.mem_append_right _ (List.mem_of_getElem? (i := 24) rfl)) rfl
theorem wd_25 : (Cond.methodLink "PriorityKernel" (51 : Nat) ({ cls := "PriorityKernel$Task", name := "<init>", desc := "(I)V" } : MethodName)) ∈ kn_T := kn_m (List.mem_append_right _ (List.mem_of_getElem? (i := 25) rfl)) rfl
theorem wd_26 : (Cond.instanceMethod ({ cls := "PriorityKernel$Task", name := "<init>", desc := "(I)V" } : MethodName)) ∈ kn_T := kn_m (List.mem_append_right _ (List.mem_of_getElem? (i := 26) rfl)) rfl
theorem wd_27 : (Cond.code ({ cls := "PriorityKernel$Task", name := "<init>", desc := "(I)V" } : MethodName) prog_3_method_1_code (2 : Nat) (Option.none : Option FieldType)) ∈ kn_T := kn_m (List.mem_append_right _ (List.mem_of_getElem? (i := 27) rfl)) rfl
theorem wd_28 : (Cond.methodLink "PriorityKernel$Task" (3 : Nat) ({ cls := "java/lang/Object", name := "<init>", desc := "()V" } : MethodName)) ∈ kn_T := kn_m (List.mem_append_right _ (List.mem_of_getElem? (i := 28) rfl)) rfl
theorem wd_29 : (Cond.constantLong "PriorityKernel$Task" (38 : Nat) (1000000000000 : Int64)) ∈ kn_T := kn_m (List.mem_append_right _ (List.mem_of_getElem? (i := 29) rfl)) rfl
theorem wd_30 : (Cond.fieldLink "PriorityKernel$Task" (55 : Nat) "PriorityKernel$Task" "number" "I") ∈ kn_T := kn_m (List.mem_append_right _ (List.mem_of_getElem? (i := 30) rfl)) rfl
theorem wd_31 : (Cond.fieldLink "PriorityKernel" (74 : Nat) "PriorityKernel$Task" "number" "I") ∈ kn_T := kn_m (List.mem_append_right _ (List.mem_of_getElem? (i := 31) rfl)) rfl
theorem wd_32 : (Cond.fieldLink "PriorityKernel$Task" (9 : Nat) "PriorityKernel$Task" "state" "I") ∈ kn_T := kn_m (List.mem_append_right _ (List.mem_of_getElem? (i := 32) rfl)) rfl
theorem wd_33 : (Cond.fieldLink "PriorityKernel" (81 : Nat) "PriorityKernel$Task" "state" "I") ∈ kn_T := kn_m (List.mem_append_right _ (List.mem_of_getElem? (i := 33) rfl)) rfl
theorem wd_34 : (Cond.fieldLink "PriorityKernel$Task" (15 : Nat) "PriorityKernel$Task" "base" "I") ∈ kn_T := kn_m (List.mem_append_right _ (List.mem_of_getElem? (i := 34) rfl)) rfl
theorem wd_35 : (Cond.fieldLink "PriorityKernel" (63 : Nat) "PriorityKernel$Task" "base" "I") ∈ kn_T := kn_m (List.mem_append_right _ (List.mem_of_getElem? (i := 35) rfl)) rfl
theorem wd_36 : (Cond.fieldLink "PriorityKernel$Task" (18 : Nat) "PriorityKernel$Task" "effective" "I") ∈ kn_T := kn_m (List.mem_append_right _ (List.mem_of_getElem? (i := 36) rfl)) rfl
theorem wd_37 : (Cond.fieldLink "PriorityKernel" (163 : Nat) "PriorityKernel$Task" "effective" "I") ∈ kn_T := kn_m (List.mem_append_right _ (List.mem_of_getElem? (i := 37) rfl)) rfl
theorem wd_38 : (Cond.fieldLink "PriorityKernel$Task" (21 : Nat) "PriorityKernel$Task" "sliced" "Z") ∈ kn_T := kn_m (List.mem_append_right _ (List.mem_of_getElem? (i := 38) rfl)) rfl
theorem wd_39 : (Cond.fieldLink "PriorityKernel" (66 : Nat) "PriorityKernel$Task" "sliced" "Z") ∈ kn_T := kn_m (List.mem_append_right _ (List.mem_of_getElem? (i := 39) rfl)) rfl
theorem wd_40 : (Cond.fieldLink "PriorityKernel$Task" (25 : Nat) "PriorityKernel$Task" "used" "I") ∈ kn_T := kn_m (List.mem_append_right _ (List.mem_of_getElem? (i := 40) rfl)) rfl
theorem wd_41 : (Cond.fieldLink "PriorityKernel" (192 : Nat) "PriorityKernel$Task" "used" "I") ∈ kn_T := kn_m (List.mem_append_right _ (List.mem_of_getElem? (i := 41) rfl)) rfl
theorem wd_42 : (Cond.fieldLink "PriorityKernel$Task" (28 : Nat) "PriorityKernel$Task" "result" "I") ∈ kn_T := kn_m (List.mem_append_right _ (List.mem_of_getElem? (i := 42) rfl)) rfl
theorem wd_43 : (Cond.fieldLink "PriorityKernel" (124 : Nat) "PriorityKernel$Task" "result" "I") ∈ kn_T := kn_m (List.mem_append_right _ (List.mem_of_getElem? (i := 43) rfl)) rfl
theorem wd_44 : (Cond.fieldLink "PriorityKernel$Task" (31 : Nat) "PriorityKernel$Task" "since" "J") ∈ kn_T := kn_m (List.mem_append_right _ (List.mem_of_getElem? (i := 44) rfl)) rfl
theorem wd_45 : (Cond.fieldLink "PriorityKernel" (84 : Nat) "PriorityKernel$Task" "since" "J") ∈ kn_T := kn_m (List.mem_append_right _ (List.mem_of_getElem? (i := 45) rfl)) rfl
theorem wd_46 : (Cond.fieldLink "PriorityKernel$Task" (35 : Nat) "PriorityKernel$Task" "waitsOn" "I") ∈ kn_T := kn_m (List.mem_append_right _ (List.mem_of_getElem? (i := 46) rfl)) rfl
theorem wd_47 : (Cond.fieldLink "PriorityKernel" (166 : Nat) "PriorityKernel$Task" "waitsOn" "I") ∈ kn_T := kn_m (List.mem_append_right _ (List.mem_of_getElem? (i := 47) rfl)) rfl
theorem wd_48 : (Cond.fieldLink "PriorityKernel$Task" (40 : Nat) "PriorityKernel$Task" "deadline" "J") ∈ kn_T := kn_m (List.mem_append_right _ (List.mem_of_getElem? (i := 48) rfl)) rfl
theorem wd_49 : (Cond.fieldLink "PriorityKernel" (169 : Nat) "PriorityKernel$Task" "deadline" "J") ∈ kn_T := kn_m (List.mem_append_right _ (List.mem_of_getElem? (i := 49) rfl)) rfl
theorem wd_50 : (Cond.fieldLink "PriorityKernel$Task" (43 : Nat) "PriorityKernel$Task" "mutexInMind" "I") ∈ kn_T := kn_m (List.mem_append_right _ (List.mem_of_getElem? (i := 50) rfl)) rfl
theorem wd_51 : (Cond.fieldLink "PriorityKernel" (106 : Nat) "PriorityKernel$Task" "mutexInMind" "I") ∈ kn_T := kn_m (List.mem_append_right _ (List.mem_of_getElem? (i := 51) rfl)) rfl
theorem wd_52 : (Cond.fieldLink "PriorityKernel$Task" (46 : Nat) "PriorityKernel$Task" "resultWhenOwning" "I") ∈ kn_T := kn_m (List.mem_append_right _ (List.mem_of_getElem? (i := 52) rfl)) rfl
theorem wd_53 : (Cond.fieldLink "PriorityKernel" (94 : Nat) "PriorityKernel$Task" "resultWhenOwning" "I") ∈ kn_T := kn_m (List.mem_append_right _ (List.mem_of_getElem? (i := 53) rfl)) rfl
theorem wd_54 : (Cond.fieldLink "PriorityKernel$Task" (49 : Nat) "PriorityKernel$Task" "rank" "I") ∈ kn_T := kn_m (List.mem_append_right _ (List.mem_of_getElem? (i := 54) rfl)) rfl
theorem wd_55 : (Cond.fieldLink "PriorityKernel" (131 : Nat) "PriorityKernel$Task" "rank" "I") ∈ kn_T := kn_m (List.mem_append_right _ (List.mem_of_getElem? (i := 55) rfl)) rfl
theorem wd_56 : (Cond.fieldLink "PriorityKernel$Task" (52 : Nat) "PriorityKernel$Task" "value" "I") ∈ kn_T := kn_m (List.mem_append_right _ (List.mem_of_getElem? (i := 56) rfl)) rfl
theorem wd_57 : (Cond.fieldLink "PriorityKernel" (134 : Nat) "PriorityKernel$Task" "value" "I") ∈ kn_T := kn_m (List.mem_append_right _ (List.mem_of_getElem? (i := 57) rfl)) rfl
theorem wd_87 : (Cond.arrayClass FieldType.int) ∈ kn_T := kn_m (List.mem_append_right _ (List.mem_of_getElem? (i := 87) rfl)) rfl
theorem wd_88 : (Cond.instantiable "PriorityKernel$MessageQueue" (3 : Nat)) ∈ kn_T := kn_m (List.mem_append_right _ (List.mem_of_getElem? (i := 88) rfl)) rfl
theorem wd_90 : (Cond.instanceMethod ({ cls := "PriorityKernel$MessageQueue", name := "<init>", desc := "()V" } : MethodName)) ∈ kn_T := kn_m (List.mem_append_right _ (List.mem_of_getElem? (i := 90) rfl)) rfl
theorem wd_91 : (Cond.code ({ cls := "PriorityKernel$MessageQueue", name := "<init>", desc := "()V" } : MethodName) prog_2_method_1_code (1 : Nat) (Option.none : Option FieldType)) ∈ kn_T := kn_m (List.mem_append_right _ (List.mem_of_getElem? (i := 91) rfl)) rfl
theorem wd_92 : (Cond.methodLink "PriorityKernel$MessageQueue" (3 : Nat) ({ cls := "java/lang/Object", name := "<init>", desc := "()V" } : MethodName)) ∈ kn_T := kn_m (List.mem_append_right _ (List.mem_of_getElem? (i := 92) rfl)) rfl
theorem wd_93 : (Cond.fieldLink "PriorityKernel$MessageQueue" (9 : Nat) "PriorityKernel$MessageQueue" "ranks" "[I") ∈ kn_T := kn_m (List.mem_append_right _ (List.mem_of_getElem? (i := 93) rfl)) rfl
theorem wd_94 : (Cond.fieldLink "PriorityKernel$MessageQueue" (15 : Nat) "PriorityKernel$MessageQueue" "contents" "[I") ∈ kn_T := kn_m (List.mem_append_right _ (List.mem_of_getElem? (i := 94) rfl)) rfl
theorem wd_95 : (Cond.fieldLink "PriorityKernel$MessageQueue" (18 : Nat) "PriorityKernel$MessageQueue" "size" "I") ∈ kn_T := kn_m (List.mem_append_right _ (List.mem_of_getElem? (i := 95) rfl)) rfl
theorem wd_96 : (Cond.fieldLink "PriorityKernel" (172 : Nat) "PriorityKernel$MessageQueue" "size" "I") ∈ kn_T := kn_m (List.mem_append_right _ (List.mem_of_getElem? (i := 96) rfl)) rfl
theorem wd_104 : (Cond.fieldLink "PriorityKernel" (45 : Nat) "PriorityKernel" "slice" "I") ∈ kn_T := kn_m (List.mem_append_right _ (List.mem_of_getElem? (i := 104) rfl)) rfl
theorem wd_105 : (Cond.fieldLink "PriorityKernel" (48 : Nat) "PriorityKernel" "ceiling" "I") ∈ kn_T := kn_m (List.mem_append_right _ (List.mem_of_getElem? (i := 105) rfl)) rfl
theorem wd_106 : (Cond.fieldLink "PriorityKernel" (11 : Nat) "PriorityKernel" "tasks" "[LPriorityKernel$Task;") ∈ kn_T := kn_m (List.mem_append_right _ (List.mem_of_getElem? (i := 106) rfl)) rfl
theorem wd_107 : (Cond.fieldLink "PriorityKernel" (15 : Nat) "PriorityKernel" "owners" "[I") ∈ kn_T := kn_m (List.mem_append_right _ (List.mem_of_getElem? (i := 107) rfl)) rfl
theorem wd_108 : (Cond.fieldLink "PriorityKernel" (19 : Nat) "PriorityKernel" "values" "[I") ∈ kn_T := kn_m (List.mem_append_right _ (List.mem_of_getElem? (i := 108) rfl)) rfl
theorem wd_109 : (Cond.fieldLink "PriorityKernel" (24 : Nat) "PriorityKernel" "queues" "[LPriorityKernel$MessageQueue;") ∈ kn_T := kn_m (List.mem_append_right _ (List.mem_of_getElem? (i := 109) rfl)) rfl
theorem wd_110 : (Cond.fieldLink "PriorityKernel" (28 : Nat) "PriorityKernel" "time" "I") ∈ kn_T := kn_m (List.mem_append_right _ (List.mem_of_getElem? (i := 110) rfl)) rfl
theorem wd_111 : (Cond.fieldLink "PriorityKernel" (32 : Nat) "PriorityKernel" "lastMoment" "J") ∈ kn_T := kn_m (List.mem_append_right _ (List.mem_of_getElem? (i := 111) rfl)) rfl
theorem wd_129 : (Cond.methodLink "PriorityKernelLaw" (21 : Nat) ({ cls := "PriorityKernel", name := "spawn", desc := "(IZ)I" } : MethodName)) ∈ kn_T := kn_m (List.mem_append_right _ (List.mem_of_getElem? (i := 129) rfl)) rfl
theorem wd_130 : (Cond.instanceMethod ({ cls := "PriorityKernel", name := "spawn", desc := "(IZ)I" } : MethodName)) ∈ kn_T := kn_m (List.mem_append_right _ (List.mem_of_getElem? (i := 130) rfl)) rfl
theorem wd_131 : (Cond.selects "PriorityKernel" ({ cls := "PriorityKernel", name := "spawn", desc := "(IZ)I" } : MethodName) ({ cls := "PriorityKernel", name := "spawn", desc := "(IZ)I" } : MethodName)) ∈ kn_T := kn_m (List.mem_append_right _ (List.mem_of_getElem? (i := 131) rfl)) rfl
theorem wd_132 : (Cond.code ({ cls := "PriorityKernel", name := "spawn", desc := "(IZ)I" } : MethodName) prog_1_method_2_code (4 : Nat) (Option.some FieldType.int)) ∈ kn_T := kn_m (List.mem_append_right _ (List.mem_of_getElem? (i := 132) rfl)) rfl
theorem wd_133 : (Cond.methodLink "PriorityKernel" (55 : Nat) ({ cls := "PriorityKernel", name := "isPriority", desc := "(I)Z" } : MethodName)) ∈ kn_T := kn_m (List.mem_append_right _ (List.mem_of_getElem? (i := 133) rfl)) rfl
theorem wd_134 : (Cond.static ({ cls := "PriorityKernel", name := "isPriority", desc := "(I)Z" } : MethodName)) ∈ kn_T := kn_m (List.mem_append_right _ (List.mem_of_getElem? (i := 134) rfl)) rfl
theorem wd_135 : (Cond.code ({ cls := "PriorityKernel", name := "isPriority", desc := "(I)Z" } : MethodName) prog_1_method_22_code (1 : Nat) (Option.some FieldType.boolean)) ∈ kn_T := kn_m (List.mem_append_right _ (List.mem_of_getElem? (i := 135) rfl)) rfl
theorem wd_136 : (Cond.methodLink "PriorityKernel" (59 : Nat) ({ cls := "PriorityKernel", name := "leastFree", desc := "()LPriorityKernel$Task;" } : MethodName)) ∈ kn_T := kn_m (List.mem_append_right _ (List.mem_of_getElem? (i := 136) rfl)) rfl
theorem wd_138 : (Cond.instanceMethod ({ cls := "PriorityKernel", name := "leastFree", desc := "()LPriorityKernel$Task;" } : MethodName)) ∈ kn_T := kn_m (List.mem_append_right _ (List.mem_of_getElem? (i := 138) rfl)) rfl
theorem wd_139 : (Cond.code ({ cls := "PriorityKernel", name := "leastFree", desc := "()LPriorityKernel$Task;" } : MethodName) prog_1_method_25_code (5 : Nat) (Option.some (FieldType.object "PriorityKernel$Task"))) ∈ kn_T := kn_m (List.mem_append_right _ (List.mem_of_getElem? (i := 139) rfl)) rfl
theorem wd_140 : (Cond.methodLink "PriorityKernel" (70 : Nat) ({ cls := "PriorityKernel", name := "makeReady", desc := "(LPriorityKernel$Task;I)V" } : MethodName)) ∈ kn_T := kn_m (List.mem_append_right _ (List.mem_of_getElem? (i := 140) rfl)) rfl
theorem wd_142 : (Cond.instanceMethod ({ cls := "PriorityKernel", name := "makeReady", desc := "(LPriorityKernel$Task;I)V" } : MethodName)) ∈ kn_T := kn_m (List.mem_append_right _ (List.mem_of_getElem? (i := 142) rfl)) rfl
theorem wd_143 : (Cond.code ({ cls := "PriorityKernel", name := "makeReady", desc := "(LPriorityKernel$Task;I)V" } : MethodName) prog_1_method_35_code (3 : Nat) (Option.none : Option FieldType)) ∈ kn_T := kn_m (List.mem_append_right _ (List.mem_of_getElem? (i := 143) rfl)) rfl
theorem wd_144 : (Cond.constantLong "PriorityKernel" (137 : Nat) (1000000000000 : Int64)) ∈ kn_T := kn_m (List.mem_append_right _ (List.mem_of_getElem? (i := 144) rfl)) rfl
theorem wd_145 : (Cond.methodLink "PriorityKernelLaw" (26 : Nat) ({ cls := "PriorityKernel", name := "priority", desc := "(II)I" } : MethodName)) ∈ kn_T := kn_m (List.mem_append_right _ (List.mem_of_getElem? (i := 145) rfl)) rfl
theorem wd_146 : (Cond.instanceMethod ({ cls := "PriorityKernel", name := "priority", desc := "(II)I" } : MethodName)) ∈ kn_T := kn_m (List.mem_append_right _ (List.mem_of_getElem? (i := 146) rfl)) rfl
theorem wd_147 : (Cond.selects "PriorityKernel" ({ cls := "PriorityKernel", name := "priority", desc := "(II)I" } : MethodName) ({ cls := "PriorityKernel", name := "priority", desc := "(II)I" } : MethodName)) ∈ kn_T := kn_m (List.mem_append_right _ (List.mem_of_getElem? (i := 147) rfl)) rfl
theorem wd_148 : (Cond.code ({ cls := "PriorityKernel", name := "priority", desc := "(II)I" } : MethodName) prog_1_method_3_code (4 : Nat) (Option.some FieldType.int)) ∈ kn_T := kn_m (List.mem_append_right _ (List.mem_of_getElem? (i := 148) rfl)) rfl
theorem wd_149 : (Cond.methodLink "PriorityKernel" (77 : Nat) ({ cls := "PriorityKernel", name := "isBelow", desc := "(II)Z" } : MethodName)) ∈ kn_T := kn_m (List.mem_append_right _ (List.mem_of_getElem? (i := 149) rfl)) rfl
theorem wd_150 : (Cond.static ({ cls := "PriorityKernel", name := "isBelow", desc := "(II)Z" } : MethodName)) ∈ kn_T := kn_m (List.mem_append_right _ (List.mem_of_getElem? (i := 150) rfl)) rfl
theorem wd_151 : (Cond.code ({ cls := "PriorityKernel", name := "isBelow", desc := "(II)Z" } : MethodName) prog_1_method_21_code (2 : Nat) (Option.some FieldType.boolean)) ∈ kn_T := kn_m (List.mem_append_right _ (List.mem_of_getElem? (i := 151) rfl)) rfl
theorem wd_152 : (Cond.methodLink "PriorityKernelLaw" (31 : Nat) ({ cls := "PriorityKernel", name := "pass", desc := "()I" } : MethodName)) ∈ kn_T := kn_m (List.mem_append_right _ (List.mem_of_getElem? (i := 152) rfl)) rfl
theorem wd_153 : (Cond.instanceMethod ({ cls := "PriorityKernel", name := "pass", desc := "()I" } : MethodName)) ∈ kn_T := kn_m (List.mem_append_right _ (List.mem_of_getElem? (i := 153) rfl)) rfl
theorem wd_154 : (Cond.selects "PriorityKernel" ({ cls := "PriorityKernel", name := "pass", desc := "()I" } : MethodName) ({ cls := "PriorityKernel", name := "pass", desc := "()I" } : MethodName)) ∈ kn_T := kn_m (List.mem_append_right _ (List.mem_of_getElem? (i := 154) rfl)) rfl
theorem wd_155 : (Cond.code ({ cls := "PriorityKernel", name := "pass", desc := "()I" } : MethodName) prog_1_method_4_code (2 : Nat) (Option.some FieldType.int)) ∈ kn_T := kn_m (List.mem_append_right _ (List.mem_of_getElem? (i := 155) rfl)) rfl
theorem wd_156 : (Cond.methodLink "PriorityKernel" (87 : Nat) ({ cls := "PriorityKernel", name := "runner", desc := "()LPriorityKernel$Task;" } : MethodName)) ∈ kn_T := kn_m (List.mem_append_right _ (List.mem_of_getElem? (i := 156) rfl)) rfl
theorem wd_158 : (Cond.instanceMethod ({ cls := "PriorityKernel", name := "runner", desc := "()LPriorityKernel$Task;" } : MethodName)) ∈ kn_T := kn_m (List.mem_append_right _ (List.mem_of_getElem? (i := 158) rfl)) rfl
theorem wd_159 : (Cond.code ({ cls := "PriorityKernel", name := "runner", desc := "()LPriorityKernel$Task;" } : MethodName) prog_1_method_28_code (1 : Nat) (Option.some (FieldType.object "PriorityKernel$Task"))) ∈ kn_T := kn_m (List.mem_append_right _ (List.mem_of_getElem? (i := 159) rfl)) rfl
theorem wd_160 : (Cond.methodLink "PriorityKernel" (178 : Nat) ({ cls := "PriorityKernel", name := "foremost", desc := "(II)LPriorityKernel$Task;" } : MethodName)) ∈ kn_T := kn_m (List.mem_append_right _ (List.mem_of_getElem? (i := 160) rfl)) rfl
theorem wd_162 : (Cond.instanceMethod ({ cls := "PriorityKernel", name := "foremost", desc := "(II)LPriorityKernel$Task;" } : MethodName)) ∈ kn_T := kn_m (List.mem_append_right _ (List.mem_of_getElem? (i := 162) rfl)) rfl
theorem wd_163 : (Cond.code ({ cls := "PriorityKernel", name := "foremost", desc := "(II)LPriorityKernel$Task;" } : MethodName) prog_1_method_30_code (8 : Nat) (Option.some (FieldType.object "PriorityKernel$Task"))) ∈ kn_T := kn_m (List.mem_append_right _ (List.mem_of_getElem? (i := 163) rfl)) rfl
theorem wd_164 : (Cond.methodLink "PriorityKernel" (160 : Nat) ({ cls := "PriorityKernel", name := "workOutEffective", desc := "()V" } : MethodName)) ∈ kn_T := kn_m (List.mem_append_right _ (List.mem_of_getElem? (i := 164) rfl)) rfl
theorem wd_166 : (Cond.instanceMethod ({ cls := "PriorityKernel", name := "workOutEffective", desc := "()V" } : MethodName)) ∈ kn_T := kn_m (List.mem_append_right _ (List.mem_of_getElem? (i := 166) rfl)) rfl
theorem wd_167 : (Cond.code ({ cls := "PriorityKernel", name := "workOutEffective", desc := "()V" } : MethodName) prog_1_method_31_code (5 : Nat) (Option.none : Option FieldType)) ∈ kn_T := kn_m (List.mem_append_right _ (List.mem_of_getElem? (i := 167) rfl)) rfl
theorem wd_168 : (Cond.methodLink "PriorityKernel" (185 : Nat) ({ cls := "PriorityKernel", name := "inheritOnce", desc := "()Z" } : MethodName)) ∈ kn_T := kn_m (List.mem_append_right _ (List.mem_of_getElem? (i := 168) rfl)) rfl
theorem wd_170 : (Cond.instanceMethod ({ cls := "PriorityKernel", name := "inheritOnce", desc := "()Z" } : MethodName)) ∈ kn_T := kn_m (List.mem_append_right _ (List.mem_of_getElem? (i := 170) rfl)) rfl
theorem wd_171 : (Cond.code ({ cls := "PriorityKernel", name := "inheritOnce", desc := "()Z" } : MethodName) prog_1_method_32_code (7 : Nat) (Option.some FieldType.boolean)) ∈ kn_T := kn_m (List.mem_append_right _ (List.mem_of_getElem? (i := 171) rfl)) rfl
theorem wd_172 : (Cond.methodLink "PriorityKernel" (188 : Nat) ({ cls := "PriorityKernel", name := "heirOf", desc := "(LPriorityKernel$Task;)I" } : MethodName)) ∈ kn_T := kn_m (List.mem_append_right _ (List.mem_of_getElem? (i := 172) rfl)) rfl
theorem wd_174 : (Cond.instanceMethod ({ cls := "PriorityKernel", name := "heirOf", desc := "(LPriorityKernel$Task;)I" } : MethodName)) ∈ kn_T := kn_m (List.mem_append_right _ (List.mem_of_getElem? (i := 174) rfl)) rfl
theorem wd_175 : (Cond.code ({ cls := "PriorityKernel", name := "heirOf", desc := "(LPriorityKernel$Task;)I" } : MethodName) prog_1_method_33_code (3 : Nat) (Option.some FieldType.int)) ∈ kn_T := kn_m (List.mem_append_right _ (List.mem_of_getElem? (i := 175) rfl)) rfl
theorem wd_176 : (Cond.methodLink "PriorityKernel" (182 : Nat) ({ cls := "PriorityKernel$Task", name := "isAheadOf", desc := "(LPriorityKernel$Task;)Z" } : MethodName)) ∈ kn_T := kn_m (List.mem_append_right _ (List.mem_of_getElem? (i := 176) rfl)) rfl
theorem wd_177 : (Cond.instanceMethod ({ cls := "PriorityKernel$Task", name := "isAheadOf", desc := "(LPriorityKernel$Task;)Z" } : MethodName)) ∈ kn_T := kn_m (List.mem_append_right _ (List.mem_of_getElem? (i := 177) rfl)) rfl
theorem wd_178 : (Cond.selects "PriorityKernel$Task" ({ cls := "PriorityKernel$Task", name := "isAheadOf", desc := "(LPriorityKernel$Task;)Z" } : MethodName) ({ cls := "PriorityKernel$Task", name := "isAheadOf", desc := "(LPriorityKernel$Task;)Z" } : MethodName)) ∈ kn_T := kn_m (List.mem_append_right _ (List.mem_of_getElem? (i := 178) rfl)) rfl
theorem wd_179 : (Cond.code ({ cls := "PriorityKernel$Task", name := "isAheadOf", desc := "(LPriorityKernel$Task;)Z" } : MethodName) prog_3_method_2_code (2 : Nat) (Option.some FieldType.boolean)) ∈ kn_T := kn_m (List.mem_append_right _ (List.mem_of_getElem? (i := 179) rfl)) rfl
theorem wd_180 : (Cond.methodLink "PriorityKernel" (90 : Nat) ({ cls := "PriorityKernel", name := "startTurn", desc := "(LPriorityKernel$Task;)V" } : MethodName)) ∈ kn_T := kn_m (List.mem_append_right _ (List.mem_of_getElem? (i := 180) rfl)) rfl
theorem wd_182 : (Cond.instanceMethod ({ cls := "PriorityKernel", name := "startTurn", desc := "(LPriorityKernel$Task;)V" } : MethodName)) ∈ kn_T := kn_m (List.mem_append_right _ (List.mem_of_getElem? (i := 182) rfl)) rfl
theorem wd_183 : (Cond.code ({ cls := "PriorityKernel", name := "startTurn", desc := "(LPriorityKernel$Task;)V" } : MethodName) prog_1_method_34_code (2 : Nat) (Option.none : Option FieldType)) ∈ kn_T := kn_m (List.mem_append_right _ (List.mem_of_getElem? (i := 183) rfl)) rfl
theorem wd_184 : (Cond.methodLink "PriorityKernelLaw" (36 : Nat) ({ cls := "PriorityKernel", name := "lock", desc := "(I)I" } : MethodName)) ∈ kn_T := kn_m (List.mem_append_right _ (List.mem_of_getElem? (i := 184) rfl)) rfl
theorem wd_185 : (Cond.instanceMethod ({ cls := "PriorityKernel", name := "lock", desc := "(I)I" } : MethodName)) ∈ kn_T := kn_m (List.mem_append_right _ (List.mem_of_getElem? (i := 185) rfl)) rfl
theorem wd_186 : (Cond.selects "PriorityKernel" ({ cls := "PriorityKernel", name := "lock", desc := "(I)I" } : MethodName) ({ cls := "PriorityKernel", name := "lock", desc := "(I)I" } : MethodName)) ∈ kn_T := kn_m (List.mem_append_right _ (List.mem_of_getElem? (i := 186) rfl)) rfl
theorem wd_187 : (Cond.code ({ cls := "PriorityKernel", name := "lock", desc := "(I)I" } : MethodName) prog_1_method_5_code (3 : Nat) (Option.some FieldType.int)) ∈ kn_T := kn_m (List.mem_append_right _ (List.mem_of_getElem? (i := 187) rfl)) rfl
theorem wd_188 : (Cond.methodLink "PriorityKernel" (97 : Nat) ({ cls := "PriorityKernel", name := "take", desc := "(LPriorityKernel$Task;I)V" } : MethodName)) ∈ kn_T := kn_m (List.mem_append_right _ (List.mem_of_getElem? (i := 188) rfl)) rfl
theorem wd_190 : (Cond.instanceMethod ({ cls := "PriorityKernel", name := "take", desc := "(LPriorityKernel$Task;I)V" } : MethodName)) ∈ kn_T := kn_m (List.mem_append_right _ (List.mem_of_getElem? (i := 190) rfl)) rfl
theorem wd_191 : (Cond.code ({ cls := "PriorityKernel", name := "take", desc := "(LPriorityKernel$Task;I)V" } : MethodName) prog_1_method_37_code (3 : Nat) (Option.none : Option FieldType)) ∈ kn_T := kn_m (List.mem_append_right _ (List.mem_of_getElem? (i := 191) rfl)) rfl
theorem wd_192 : (Cond.methodLink "PriorityKernel" (195 : Nat) ({ cls := "PriorityKernel", name := "makeOwner", desc := "(LPriorityKernel$Task;I)V" } : MethodName)) ∈ kn_T := kn_m (List.mem_append_right _ (List.mem_of_getElem? (i := 192) rfl)) rfl
theorem wd_194 : (Cond.instanceMethod ({ cls := "PriorityKernel", name := "makeOwner", desc := "(LPriorityKernel$Task;I)V" } : MethodName)) ∈ kn_T := kn_m (List.mem_append_right _ (List.mem_of_getElem? (i := 194) rfl)) rfl
theorem wd_195 : (Cond.code ({ cls := "PriorityKernel", name := "makeOwner", desc := "(LPriorityKernel$Task;I)V" } : MethodName) prog_1_method_39_code (3 : Nat) (Option.none : Option FieldType)) ∈ kn_T := kn_m (List.mem_append_right _ (List.mem_of_getElem? (i := 195) rfl)) rfl
theorem wd_196 : (Cond.methodLink "PriorityKernel" (113 : Nat) ({ cls := "PriorityKernel", name := "block", desc := "(LPriorityKernel$Task;IJ)V" } : MethodName)) ∈ kn_T := kn_m (List.mem_append_right _ (List.mem_of_getElem? (i := 196) rfl)) rfl
theorem wd_198 : (Cond.instanceMethod ({ cls := "PriorityKernel", name := "block", desc := "(LPriorityKernel$Task;IJ)V" } : MethodName)) ∈ kn_T := kn_m (List.mem_append_right _ (List.mem_of_getElem? (i := 198) rfl)) rfl
theorem wd_199 : (Cond.code ({ cls := "PriorityKernel", name := "block", desc := "(LPriorityKernel$Task;IJ)V" } : MethodName) prog_1_method_36_code (5 : Nat) (Option.none : Option FieldType)) ∈ kn_T := kn_m (List.mem_append_right _ (List.mem_of_getElem? (i := 199) rfl)) rfl
theorem wd_200 : (Cond.methodLink "PriorityKernelLaw" (41 : Nat) ({ cls := "PriorityKernel", name := "unlock", desc := "(I)I" } : MethodName)) ∈ kn_T := kn_m (List.mem_append_right _ (List.mem_of_getElem? (i := 200) rfl)) rfl
theorem wd_201 : (Cond.instanceMethod ({ cls := "PriorityKernel", name := "unlock", desc := "(I)I" } : MethodName)) ∈ kn_T := kn_m (List.mem_append_right _ (List.mem_of_getElem? (i := 201) rfl)) rfl
theorem wd_202 : (Cond.selects "PriorityKernel" ({ cls := "PriorityKernel", name := "unlock", desc := "(I)I" } : MethodName) ({ cls := "PriorityKernel", name := "unlock", desc := "(I)I" } : MethodName)) ∈ kn_T := kn_m (List.mem_append_right _ (List.mem_of_getElem? (i := 202) rfl)) rfl
theorem wd_203 : (Cond.code ({ cls := "PriorityKernel", name := "unlock", desc := "(I)I" } : MethodName) prog_1_method_6_code (3 : Nat) (Option.some FieldType.int)) ∈ kn_T := kn_m (List.mem_append_right _ (List.mem_of_getElem? (i := 203) rfl)) rfl
theorem wd_204 : (Cond.methodLink "PriorityKernel" (100 : Nat) ({ cls := "PriorityKernel", name := "give", desc := "(I)V" } : MethodName)) ∈ kn_T := kn_m (List.mem_append_right _ (List.mem_of_getElem? (i := 204) rfl)) rfl
theorem wd_206 : (Cond.instanceMethod ({ cls := "PriorityKernel", name := "give", desc := "(I)V" } : MethodName)) ∈ kn_T := kn_m (List.mem_append_right _ (List.mem_of_getElem? (i := 206) rfl)) rfl
theorem wd_207 : (Cond.code ({ cls := "PriorityKernel", name := "give", desc := "(I)V" } : MethodName) prog_1_method_38_code (3 : Nat) (Option.none : Option FieldType)) ∈ kn_T := kn_m (List.mem_append_right _ (List.mem_of_getElem? (i := 207) rfl)) rfl
theorem wd_208 : (Cond.methodLink "PriorityKernel" (117 : Nat) ({ cls := "PriorityKernel", name := "firstWaiter", desc := "(I)LPriorityKernel$Task;" } : MethodName)) ∈ kn_T := kn_m (List.mem_append_right _ (List.mem_of_getElem? (i := 208) rfl)) rfl
theorem wd_210 : (Cond.instanceMethod ({ cls := "PriorityKernel", name := "firstWaiter", desc := "(I)LPriorityKernel$Task;" } : MethodName)) ∈ kn_T := kn_m (List.mem_append_right _ (List.mem_of_getElem? (i := 210) rfl)) rfl
theorem wd_211 : (Cond.code ({ cls := "PriorityKernel", name := "firstWaiter", desc := "(I)LPriorityKernel$Task;" } : MethodName) prog_1_method_29_code (2 : Nat) (Option.some (FieldType.object "PriorityKernel$Task"))) ∈ kn_T := kn_m (List.mem_append_right _ (List.mem_of_getElem? (i := 211) rfl)) rfl
theorem wd_212 : (Cond.methodLink "PriorityKernelLaw" (45 : Nat) ({ cls := "PriorityKernel", name := "await", desc := "(III)I" } : MethodName)) ∈ kn_T := kn_m (List.mem_append_right _ (List.mem_of_getElem? (i := 212) rfl)) rfl
theorem wd_213 : (Cond.instanceMethod ({ cls := "PriorityKernel", name := "await", desc := "(III)I" } : MethodName)) ∈ kn_T := kn_m (List.mem_append_right _ (List.mem_of_getElem? (i := 213) rfl)) rfl
theorem wd_214 : (Cond.selects "PriorityKernel" ({ cls := "PriorityKernel", name := "await", desc := "(III)I" } : MethodName) ({ cls := "PriorityKernel", name := "await", desc := "(III)I" } : MethodName)) ∈ kn_T := kn_m (List.mem_append_right _ (List.mem_of_getElem? (i := 214) rfl)) rfl
theorem wd_215 : (Cond.code ({ cls := "PriorityKernel", name := "await", desc := "(III)I" } : MethodName) prog_1_method_7_code (5 : Nat) (Option.some FieldType.int)) ∈ kn_T := kn_m (List.mem_append_right _ (List.mem_of_getElem? (i := 215) rfl)) rfl
theorem wd_216 : (Cond.methodLink "PriorityKernel" (103 : Nat) ({ cls := "PriorityKernel", name := "isTimeout", desc := "(I)Z" } : MethodName)) ∈ kn_T := kn_m (List.mem_append_right _ (List.mem_of_getElem? (i := 216) rfl)) rfl
theorem wd_217 : (Cond.static ({ cls := "PriorityKernel", name := "isTimeout", desc := "(I)Z" } : MethodName)) ∈ kn_T := kn_m (List.mem_append_right _ (List.mem_of_getElem? (i := 217) rfl)) rfl
theorem wd_218 : (Cond.code ({ cls := "PriorityKernel", name := "isTimeout", desc := "(I)Z" } : MethodName) prog_1_method_23_code (1 : Nat) (Option.some FieldType.boolean)) ∈ kn_T := kn_m (List.mem_append_right _ (List.mem_of_getElem? (i := 218) rfl)) rfl
theorem wd_219 : (Cond.methodLink "PriorityKernel" (109 : Nat) ({ cls := "PriorityKernel", name := "deadlineAfter", desc := "(I)J" } : MethodName)) ∈ kn_T := kn_m (List.mem_append_right _ (List.mem_of_getElem? (i := 219) rfl)) rfl
theorem wd_221 : (Cond.instanceMethod ({ cls := "PriorityKernel", name := "deadlineAfter", desc := "(I)J" } : MethodName)) ∈ kn_T := kn_m (List.mem_append_right _ (List.mem_of_getElem? (i := 221) rfl)) rfl
theorem wd_222 : (Cond.code ({ cls := "PriorityKernel", name := "deadlineAfter", desc := "(I)J" } : MethodName) prog_1_method_24_code (2 : Nat) (Option.some FieldType.long)) ∈ kn_T := kn_m (List.mem_append_right _ (List.mem_of_getElem? (i := 222) rfl)) rfl
theorem wd_223 : (Cond.methodLink "PriorityKernelLaw" (50 : Nat) ({ cls := "PriorityKernel", name := "signal", desc := "(IZ)I" } : MethodName)) ∈ kn_T := kn_m (List.mem_append_right _ (List.mem_of_getElem? (i := 223) rfl)) rfl
theorem wd_224 : (Cond.instanceMethod ({ cls := "PriorityKernel", name := "signal", desc := "(IZ)I" } : MethodName)) ∈ kn_T := kn_m (List.mem_append_right _ (List.mem_of_getElem? (i := 224) rfl)) rfl
theorem wd_225 : (Cond.selects "PriorityKernel" ({ cls := "PriorityKernel", name := "signal", desc := "(IZ)I" } : MethodName) ({ cls := "PriorityKernel", name := "signal", desc := "(IZ)I" } : MethodName)) ∈ kn_T := kn_m (List.mem_append_right _ (List.mem_of_getElem? (i := 225) rfl)) rfl
theorem wd_226 : (Cond.code ({ cls := "PriorityKernel", name := "signal", desc := "(IZ)I" } : MethodName) prog_1_method_8_code (7 : Nat) (Option.some FieldType.int)) ∈ kn_T := kn_m (List.mem_append_right _ (List.mem_of_getElem? (i := 226) rfl)) rfl
theorem wd_227 : (Cond.methodLink "PriorityKernel" (121 : Nat) ({ cls := "PriorityKernel", name := "endAwait", desc := "(LPriorityKernel$Task;I)V" } : MethodName)) ∈ kn_T := kn_m (List.mem_append_right _ (List.mem_of_getElem? (i := 227) rfl)) rfl
theorem wd_229 : (Cond.instanceMethod ({ cls := "PriorityKernel", name := "endAwait", desc := "(LPriorityKernel$Task;I)V" } : MethodName)) ∈ kn_T := kn_m (List.mem_append_right _ (List.mem_of_getElem? (i := 229) rfl)) rfl
theorem wd_230 : (Cond.code ({ cls := "PriorityKernel", name := "endAwait", desc := "(LPriorityKernel$Task;I)V" } : MethodName) prog_1_method_40_code (3 : Nat) (Option.none : Option FieldType)) ∈ kn_T := kn_m (List.mem_append_right _ (List.mem_of_getElem? (i := 230) rfl)) rfl
theorem wd_231 : (Cond.methodLink "PriorityKernelLaw" (54 : Nat) ({ cls := "PriorityKernel", name := "down", desc := "(II)I" } : MethodName)) ∈ kn_T := kn_m (List.mem_append_right _ (List.mem_of_getElem? (i := 231) rfl)) rfl
theorem wd_232 : (Cond.instanceMethod ({ cls := "PriorityKernel", name := "down", desc := "(II)I" } : MethodName)) ∈ kn_T := kn_m (List.mem_append_right _ (List.mem_of_getElem? (i := 232) rfl)) rfl
theorem wd_233 : (Cond.selects "PriorityKernel" ({ cls := "PriorityKernel", name := "down", desc := "(II)I" } : MethodName) ({ cls := "PriorityKernel", name := "down", desc := "(II)I" } : MethodName)) ∈ kn_T := kn_m (List.mem_append_right _ (List.mem_of_getElem? (i := 233) rfl)) rfl
theorem wd_234 : (Cond.code ({ cls := "PriorityKernel", name := "down", desc := "(II)I" } : MethodName) prog_1_method_9_code (4 : Nat) (Option.some FieldType.int)) ∈ kn_T := kn_m (List.mem_append_right _ (List.mem_of_getElem? (i := 234) rfl)) rfl
theorem wd_235 : (Cond.methodLink "PriorityKernelLaw" (58 : Nat) ({ cls := "PriorityKernel", name := "post", desc := "(I)I" } : MethodName)) ∈ kn_T := kn_m (List.mem_append_right _ (List.mem_of_getElem? (i := 235) rfl)) rfl
theorem wd_236 : (Cond.instanceMethod ({ cls := "PriorityKernel", name := "post", desc := "(I)I" } : MethodName)) ∈ kn_T := kn_m (List.mem_append_right _ (List.mem_of_getElem? (i := 236) rfl)) rfl
theorem wd_237 : (Cond.selects "PriorityKernel" ({ cls := "PriorityKernel", name := "post", desc := "(I)I" } : MethodName) ({ cls := "PriorityKernel", name := "post", desc := "(I)I" } : MethodName)) ∈ kn_T := kn_m (List.mem_append_right _ (List.mem_of_getElem? (i := 237) rfl)) rfl
theorem wd_238 : (Cond.code ({ cls := "PriorityKernel", name := "post", desc := "(I)I" } : MethodName) prog_1_method_10_code (3 : Nat) (Option.some FieldType.int)) ∈ kn_T := kn_m (List.mem_append_right _ (List.mem_of_getElem? (i := 238) rfl)) rfl
theorem wd_239 : (Cond.methodLink "PriorityKernelLaw" (62 : Nat) ({ cls := "PriorityKernel", name := "send", desc := "(III)I" } : MethodName)) ∈ kn_T := kn_m (List.mem_append_right _ (List.mem_of_getElem? (i := 239) rfl)) rfl
theorem wd_240 : (Cond.instanceMethod ({ cls := "PriorityKernel", name := "send", desc := "(III)I" } : MethodName)) ∈ kn_T := kn_m (List.mem_append_right _ (List.mem_of_getElem? (i := 240) rfl)) rfl
theorem wd_241 : (Cond.selects "PriorityKernel" ({ cls := "PriorityKernel", name := "send", desc := "(III)I" } : MethodName) ({ cls := "PriorityKernel", name := "send", desc := "(III)I" } : MethodName)) ∈ kn_T := kn_m (List.mem_append_right _ (List.mem_of_getElem? (i := 241) rfl)) rfl
theorem wd_242 : (Cond.code ({ cls := "PriorityKernel", name := "send", desc := "(III)I" } : MethodName) prog_1_method_11_code (5 : Nat) (Option.some FieldType.int)) ∈ kn_T := kn_m (List.mem_append_right _ (List.mem_of_getElem? (i := 242) rfl)) rfl
theorem wd_243 : (Cond.methodLink "PriorityKernel" (127 : Nat) ({ cls := "PriorityKernel$MessageQueue", name := "isFull", desc := "()Z" } : MethodName)) ∈ kn_T := kn_m (List.mem_append_right _ (List.mem_of_getElem? (i := 243) rfl)) rfl
theorem wd_244 : (Cond.instanceMethod ({ cls := "PriorityKernel$MessageQueue", name := "isFull", desc := "()Z" } : MethodName)) ∈ kn_T := kn_m (List.mem_append_right _ (List.mem_of_getElem? (i := 244) rfl)) rfl
theorem wd_245 : (Cond.selects "PriorityKernel$MessageQueue" ({ cls := "PriorityKernel$MessageQueue", name := "isFull", desc := "()Z" } : MethodName) ({ cls := "PriorityKernel$MessageQueue", name := "isFull", desc := "()Z" } : MethodName)) ∈ kn_T := kn_m (List.mem_append_right _ (List.mem_of_getElem? (i := 245) rfl)) rfl
theorem wd_246 : (Cond.code ({ cls := "PriorityKernel$MessageQueue", name := "isFull", desc := "()Z" } : MethodName) prog_2_method_3_code (1 : Nat) (Option.some FieldType.boolean)) ∈ kn_T := kn_m (List.mem_append_right _ (List.mem_of_getElem? (i := 246) rfl)) rfl
theorem wd_247 : (Cond.methodLink "PriorityKernel" (139 : Nat) ({ cls := "PriorityKernel", name := "arrive", desc := "(III)V" } : MethodName)) ∈ kn_T := kn_m (List.mem_append_right _ (List.mem_of_getElem? (i := 247) rfl)) rfl
theorem wd_249 : (Cond.instanceMethod ({ cls := "PriorityKernel", name := "arrive", desc := "(III)V" } : MethodName)) ∈ kn_T := kn_m (List.mem_append_right _ (List.mem_of_getElem? (i := 249) rfl)) rfl
theorem wd_250 : (Cond.code ({ cls := "PriorityKernel", name := "arrive", desc := "(III)V" } : MethodName) prog_1_method_41_code (5 : Nat) (Option.none : Option FieldType)) ∈ kn_T := kn_m (List.mem_append_right _ (List.mem_of_getElem? (i := 250) rfl)) rfl
theorem wd_251 : (Cond.methodLink "PriorityKernel" (198 : Nat) ({ cls := "PriorityKernel$MessageQueue", name := "insert", desc := "(II)V" } : MethodName)) ∈ kn_T := kn_m (List.mem_append_right _ (List.mem_of_getElem? (i := 251) rfl)) rfl
theorem wd_252 : (Cond.instanceMethod ({ cls := "PriorityKernel$MessageQueue", name := "insert", desc := "(II)V" } : MethodName)) ∈ kn_T := kn_m (List.mem_append_right _ (List.mem_of_getElem? (i := 252) rfl)) rfl
theorem wd_253 : (Cond.selects "PriorityKernel$MessageQueue" ({ cls := "PriorityKernel$MessageQueue", name := "insert", desc := "(II)V" } : MethodName) ({ cls := "PriorityKernel$MessageQueue", name := "insert", desc := "(II)V" } : MethodName)) ∈ kn_T := kn_m (List.mem_append_right _ (List.mem_of_getElem? (i := 253) rfl)) rfl
theorem wd_254 : (Cond.code ({ cls := "PriorityKernel$MessageQueue", name := "insert", desc := "(II)V" } : MethodName) prog_2_method_4_code (4 : Nat) (Option.none : Option FieldType)) ∈ kn_T := kn_m (List.mem_append_right _ (List.mem_of_getElem? (i := 254) rfl)) rfl
theorem wd_255 : (Cond.methodLink "PriorityKernel$MessageQueue" (22 : Nat) ({ cls := "PriorityKernel$MessageQueue", name := "isFull", desc := "()Z" } : MethodName)) ∈ kn_T := kn_m (List.mem_append_right _ (List.mem_of_getElem? (i := 255) rfl)) rfl
theorem wd_256 : (Cond.methodLink "PriorityKernelLaw" (66 : Nat) ({ cls := "PriorityKernel", name := "receive", desc := "(I)I" } : MethodName)) ∈ kn_T := kn_m (List.mem_append_right _ (List.mem_of_getElem? (i := 256) rfl)) rfl
theorem wd_257 : (Cond.instanceMethod ({ cls := "PriorityKernel", name := "receive", desc := "(I)I" } : MethodName)) ∈ kn_T := kn_m (List.mem_append_right _ (List.mem_of_getElem? (i := 257) rfl)) rfl
theorem wd_258 : (Cond.selects "PriorityKernel" ({ cls := "PriorityKernel", name := "receive", desc := "(I)I" } : MethodName) ({ cls := "PriorityKernel", name := "receive", desc := "(I)I" } : MethodName)) ∈ kn_T := kn_m (List.mem_append_right _ (List.mem_of_getElem? (i := 258) rfl)) rfl
theorem wd_259 : (Cond.code ({ cls := "PriorityKernel", name := "receive", desc := "(I)I" } : MethodName) prog_1_method_12_code (4 : Nat) (Option.some FieldType.int)) ∈ kn_T := kn_m (List.mem_append_right _ (List.mem_of_getElem? (i := 259) rfl)) rfl
theorem wd_260 : (Cond.methodLink "PriorityKernel" (143 : Nat) ({ cls := "PriorityKernel$MessageQueue", name := "isEmpty", desc := "()Z" } : MethodName)) ∈ kn_T := kn_m (List.mem_append_right _ (List.mem_of_getElem? (i := 260) rfl)) rfl
theorem wd_261 : (Cond.instanceMethod ({ cls := "PriorityKernel$MessageQueue", name := "isEmpty", desc := "()Z" } : MethodName)) ∈ kn_T := kn_m (List.mem_append_right _ (List.mem_of_getElem? (i := 261) rfl)) rfl
theorem wd_262 : (Cond.selects "PriorityKernel$MessageQueue" ({ cls := "PriorityKernel$MessageQueue", name := "isEmpty", desc := "()Z" } : MethodName) ({ cls := "PriorityKernel$MessageQueue", name := "isEmpty", desc := "()Z" } : MethodName)) ∈ kn_T := kn_m (List.mem_append_right _ (List.mem_of_getElem? (i := 262) rfl)) rfl
theorem wd_263 : (Cond.code ({ cls := "PriorityKernel$MessageQueue", name := "isEmpty", desc := "()Z" } : MethodName) prog_2_method_2_code (1 : Nat) (Option.some FieldType.boolean)) ∈ kn_T := kn_m (List.mem_append_right _ (List.mem_of_getElem? (i := 263) rfl)) rfl
theorem wd_264 : (Cond.methodLink "PriorityKernel" (146 : Nat) ({ cls := "PriorityKernel$MessageQueue", name := "removeFirst", desc := "()I" } : MethodName)) ∈ kn_T := kn_m (List.mem_append_right _ (List.mem_of_getElem? (i := 264) rfl)) rfl
theorem wd_265 : (Cond.instanceMethod ({ cls := "PriorityKernel$MessageQueue", name := "removeFirst", desc := "()I" } : MethodName)) ∈ kn_T := kn_m (List.mem_append_right _ (List.mem_of_getElem? (i := 265) rfl)) rfl
theorem wd_266 : (Cond.selects "PriorityKernel$MessageQueue" ({ cls := "PriorityKernel$MessageQueue", name := "removeFirst", desc := "()I" } : MethodName) ({ cls := "PriorityKernel$MessageQueue", name := "removeFirst", desc := "()I" } : MethodName)) ∈ kn_T := kn_m (List.mem_append_right _ (List.mem_of_getElem? (i := 266) rfl)) rfl
theorem wd_267 : (Cond.code ({ cls := "PriorityKernel$MessageQueue", name := "removeFirst", desc := "()I" } : MethodName) prog_2_method_5_code (3 : Nat) (Option.some FieldType.int)) ∈ kn_T := kn_m (List.mem_append_right _ (List.mem_of_getElem? (i := 267) rfl)) rfl
theorem wd_268 : (Cond.methodLink "PriorityKernel$MessageQueue" (26 : Nat) ({ cls := "PriorityKernel$MessageQueue", name := "isEmpty", desc := "()Z" } : MethodName)) ∈ kn_T := kn_m (List.mem_append_right _ (List.mem_of_getElem? (i := 268) rfl)) rfl
theorem wd_269 : (Cond.methodLink "PriorityKernelLaw" (70 : Nat) ({ cls := "PriorityKernel", name := "sleep", desc := "(I)I" } : MethodName)) ∈ kn_T := kn_m (List.mem_append_right _ (List.mem_of_getElem? (i := 269) rfl)) rfl
theorem wd_270 : (Cond.instanceMethod ({ cls := "PriorityKernel", name := "sleep", desc := "(I)I" } : MethodName)) ∈ kn_T := kn_m (List.mem_append_right _ (List.mem_of_getElem? (i := 270) rfl)) rfl
theorem wd_271 : (Cond.selects "PriorityKernel" ({ cls := "PriorityKernel", name := "sleep", desc := "(I)I" } : MethodName) ({ cls := "PriorityKernel", name := "sleep", desc := "(I)I" } : MethodName)) ∈ kn_T := kn_m (List.mem_append_right _ (List.mem_of_getElem? (i := 271) rfl)) rfl
theorem wd_272 : (Cond.code ({ cls := "PriorityKernel", name := "sleep", desc := "(I)I" } : MethodName) prog_1_method_13_code (3 : Nat) (Option.some FieldType.int)) ∈ kn_T := kn_m (List.mem_append_right _ (List.mem_of_getElem? (i := 272) rfl)) rfl
theorem wd_273 : (Cond.methodLink "PriorityKernelLaw" (74 : Nat) ({ cls := "PriorityKernel", name := "join", desc := "(I)I" } : MethodName)) ∈ kn_T := kn_m (List.mem_append_right _ (List.mem_of_getElem? (i := 273) rfl)) rfl
theorem wd_274 : (Cond.instanceMethod ({ cls := "PriorityKernel", name := "join", desc := "(I)I" } : MethodName)) ∈ kn_T := kn_m (List.mem_append_right _ (List.mem_of_getElem? (i := 274) rfl)) rfl
theorem wd_275 : (Cond.selects "PriorityKernel" ({ cls := "PriorityKernel", name := "join", desc := "(I)I" } : MethodName) ({ cls := "PriorityKernel", name := "join", desc := "(I)I" } : MethodName)) ∈ kn_T := kn_m (List.mem_append_right _ (List.mem_of_getElem? (i := 275) rfl)) rfl
theorem wd_276 : (Cond.code ({ cls := "PriorityKernel", name := "join", desc := "(I)I" } : MethodName) prog_1_method_14_code (4 : Nat) (Option.some FieldType.int)) ∈ kn_T := kn_m (List.mem_append_right _ (List.mem_of_getElem? (i := 276) rfl)) rfl
theorem wd_277 : (Cond.methodLink "PriorityKernelLaw" (78 : Nat) ({ cls := "PriorityKernel", name := "exit", desc := "(I)I" } : MethodName)) ∈ kn_T := kn_m (List.mem_append_right _ (List.mem_of_getElem? (i := 277) rfl)) rfl
theorem wd_278 : (Cond.instanceMethod ({ cls := "PriorityKernel", name := "exit", desc := "(I)I" } : MethodName)) ∈ kn_T := kn_m (List.mem_append_right _ (List.mem_of_getElem? (i := 278) rfl)) rfl
theorem wd_279 : (Cond.selects "PriorityKernel" ({ cls := "PriorityKernel", name := "exit", desc := "(I)I" } : MethodName) ({ cls := "PriorityKernel", name := "exit", desc := "(I)I" } : MethodName)) ∈ kn_T := kn_m (List.mem_append_right _ (List.mem_of_getElem? (i := 279) rfl)) rfl
theorem wd_280 : (Cond.code ({ cls := "PriorityKernel", name := "exit", desc := "(I)I" } : MethodName) prog_1_method_15_code (4 : Nat) (Option.some FieldType.int)) ∈ kn_T := kn_m (List.mem_append_right _ (List.mem_of_getElem? (i := 280) rfl)) rfl
theorem wd_281 : (Cond.methodLink "PriorityKernel" (150 : Nat) ({ cls := "PriorityKernel", name := "ownsAny", desc := "(LPriorityKernel$Task;)Z" } : MethodName)) ∈ kn_T := kn_m (List.mem_append_right _ (List.mem_of_getElem? (i := 281) rfl)) rfl
theorem wd_283 : (Cond.instanceMethod ({ cls := "PriorityKernel", name := "ownsAny", desc := "(LPriorityKernel$Task;)Z" } : MethodName)) ∈ kn_T := kn_m (List.mem_append_right _ (List.mem_of_getElem? (i := 283) rfl)) rfl
theorem wd_284 : (Cond.code ({ cls := "PriorityKernel", name := "ownsAny", desc := "(LPriorityKernel$Task;)Z" } : MethodName) prog_1_method_27_code (6 : Nat) (Option.some FieldType.boolean)) ∈ kn_T := kn_m (List.mem_append_right _ (List.mem_of_getElem? (i := 284) rfl)) rfl
theorem wd_285 : (Cond.methodLink "PriorityKernelLaw" (82 : Nat) ({ cls := "PriorityKernel", name := "tick", desc := "(I)I" } : MethodName)) ∈ kn_T := kn_m (List.mem_append_right _ (List.mem_of_getElem? (i := 285) rfl)) rfl
theorem wd_286 : (Cond.instanceMethod ({ cls := "PriorityKernel", name := "tick", desc := "(I)I" } : MethodName)) ∈ kn_T := kn_m (List.mem_append_right _ (List.mem_of_getElem? (i := 286) rfl)) rfl
theorem wd_287 : (Cond.selects "PriorityKernel" ({ cls := "PriorityKernel", name := "tick", desc := "(I)I" } : MethodName) ({ cls := "PriorityKernel", name := "tick", desc := "(I)I" } : MethodName)) ∈ kn_T := kn_m (List.mem_append_right _ (List.mem_of_getElem? (i := 287) rfl)) rfl
theorem wd_288 : (Cond.code ({ cls := "PriorityKernel", name := "tick", desc := "(I)I" } : MethodName) prog_1_method_16_code (3 : Nat) (Option.some FieldType.int)) ∈ kn_T := kn_m (List.mem_append_right _ (List.mem_of_getElem? (i := 288) rfl)) rfl
theorem wd_289 : (Cond.methodLink "PriorityKernel" (154 : Nat) ({ cls := "PriorityKernel", name := "tickOnce", desc := "()V" } : MethodName)) ∈ kn_T := kn_m (List.mem_append_right _ (List.mem_of_getElem? (i := 289) rfl)) rfl
theorem wd_291 : (Cond.instanceMethod ({ cls := "PriorityKernel", name := "tickOnce", desc := "()V" } : MethodName)) ∈ kn_T := kn_m (List.mem_append_right _ (List.mem_of_getElem? (i := 291) rfl)) rfl
theorem wd_292 : (Cond.code ({ cls := "PriorityKernel", name := "tickOnce", desc := "()V" } : MethodName) prog_1_method_42_code (6 : Nat) (Option.none : Option FieldType)) ∈ kn_T := kn_m (List.mem_append_right _ (List.mem_of_getElem? (i := 292) rfl)) rfl
theorem wd_293 : (Cond.methodLink "PriorityKernel" (202 : Nat) ({ cls := "PriorityKernel", name := "useTick", desc := "(LPriorityKernel$Task;)V" } : MethodName)) ∈ kn_T := kn_m (List.mem_append_right _ (List.mem_of_getElem? (i := 293) rfl)) rfl
theorem wd_295 : (Cond.instanceMethod ({ cls := "PriorityKernel", name := "useTick", desc := "(LPriorityKernel$Task;)V" } : MethodName)) ∈ kn_T := kn_m (List.mem_append_right _ (List.mem_of_getElem? (i := 295) rfl)) rfl
theorem wd_296 : (Cond.code ({ cls := "PriorityKernel", name := "useTick", desc := "(LPriorityKernel$Task;)V" } : MethodName) prog_1_method_43_code (2 : Nat) (Option.none : Option FieldType)) ∈ kn_T := kn_m (List.mem_append_right _ (List.mem_of_getElem? (i := 296) rfl)) rfl
theorem wd_297 : (Cond.methodLink "PriorityKernel" (205 : Nat) ({ cls := "PriorityKernel", name := "endWait", desc := "(LPriorityKernel$Task;)V" } : MethodName)) ∈ kn_T := kn_m (List.mem_append_right _ (List.mem_of_getElem? (i := 297) rfl)) rfl
theorem wd_299 : (Cond.instanceMethod ({ cls := "PriorityKernel", name := "endWait", desc := "(LPriorityKernel$Task;)V" } : MethodName)) ∈ kn_T := kn_m (List.mem_append_right _ (List.mem_of_getElem? (i := 299) rfl)) rfl
theorem wd_300 : (Cond.code ({ cls := "PriorityKernel", name := "endWait", desc := "(LPriorityKernel$Task;)V" } : MethodName) prog_1_method_44_code (2 : Nat) (Option.none : Option FieldType)) ∈ kn_T := kn_m (List.mem_append_right _ (List.mem_of_getElem? (i := 300) rfl)) rfl
theorem wd_301 : (Cond.methodLink "PriorityKernel" (157 : Nat) ({ cls := "PriorityKernel", name := "running", desc := "()I" } : MethodName)) ∈ kn_T := kn_m (List.mem_append_right _ (List.mem_of_getElem? (i := 301) rfl)) rfl
theorem wd_302 : (Cond.instanceMethod ({ cls := "PriorityKernel", name := "running", desc := "()I" } : MethodName)) ∈ kn_T := kn_m (List.mem_append_right _ (List.mem_of_getElem? (i := 302) rfl)) rfl
theorem wd_303 : (Cond.selects "PriorityKernel" ({ cls := "PriorityKernel", name := "running", desc := "()I" } : MethodName) ({ cls := "PriorityKernel", name := "running", desc := "()I" } : MethodName)) ∈ kn_T := kn_m (List.mem_append_right _ (List.mem_of_getElem? (i := 303) rfl)) rfl
theorem wd_304 : (Cond.code ({ cls := "PriorityKernel", name := "running", desc := "()I" } : MethodName) prog_1_method_17_code (2 : Nat) (Option.some FieldType.int)) ∈ kn_T := kn_m (List.mem_append_right _ (List.mem_of_getElem? (i := 304) rfl)) rfl
theorem wd_305 : (Cond.methodLink "PriorityKernelLaw" (86 : Nat) ({ cls := "PriorityKernel", name := "running", desc := "()I" } : MethodName)) ∈ kn_T := kn_m (List.mem_append_right _ (List.mem_of_getElem? (i := 305) rfl)) rfl
theorem wd_306 : (Cond.methodLink "PriorityKernelLaw" (90 : Nat) ({ cls := "PriorityKernel", name := "tell", desc := "(II)J" } : MethodName)) ∈ kn_T := kn_m (List.mem_append_right _ (List.mem_of_getElem? (i := 306) rfl)) rfl
theorem wd_307 : (Cond.instanceMethod ({ cls := "PriorityKernel", name := "tell", desc := "(II)J" } : MethodName)) ∈ kn_T := kn_m (List.mem_append_right _ (List.mem_of_getElem? (i := 307) rfl)) rfl
theorem wd_308 : (Cond.selects "PriorityKernel" ({ cls := "PriorityKernel", name := "tell", desc := "(II)J" } : MethodName) ({ cls := "PriorityKernel", name := "tell", desc := "(II)J" } : MethodName)) ∈ kn_T := kn_m (List.mem_append_right _ (List.mem_of_getElem? (i := 308) rfl)) rfl
theorem wd_309 : (Cond.code ({ cls := "PriorityKernel", name := "tell", desc := "(II)J" } : MethodName) prog_1_method_18_code (4 : Nat) (Option.some FieldType.long)) ∈ kn_T := kn_m (List.mem_append_right _ (List.mem_of_getElem? (i := 309) rfl)) rfl
theorem wd_310 : (Cond.methodLink "PriorityKernelLaw" (95 : Nat) ({ cls := "PriorityKernel", name := "owner", desc := "(I)I" } : MethodName)) ∈ kn_T := kn_m (List.mem_append_right _ (List.mem_of_getElem? (i := 310) rfl)) rfl
theorem wd_311 : (Cond.instanceMethod ({ cls := "PriorityKernel", name := "owner", desc := "(I)I" } : MethodName)) ∈ kn_T := kn_m (List.mem_append_right _ (List.mem_of_getElem? (i := 311) rfl)) rfl
theorem wd_312 : (Cond.selects "PriorityKernel" ({ cls := "PriorityKernel", name := "owner", desc := "(I)I" } : MethodName) ({ cls := "PriorityKernel", name := "owner", desc := "(I)I" } : MethodName)) ∈ kn_T := kn_m (List.mem_append_right _ (List.mem_of_getElem? (i := 312) rfl)) rfl
theorem wd_313 : (Cond.code ({ cls := "PriorityKernel", name := "owner", desc := "(I)I" } : MethodName) prog_1_method_19_code (2 : Nat) (Option.some FieldType.int)) ∈ kn_T := kn_m (List.mem_append_right _ (List.mem_of_getElem? (i := 313) rfl)) rfl
theorem wd_314 : (Cond.methodLink "PriorityKernelLaw" (99 : Nat) ({ cls := "PriorityKernel", name := "count", desc := "(I)I" } : MethodName)) ∈ kn_T := kn_m (List.mem_append_right _ (List.mem_of_getElem? (i := 314) rfl)) rfl
theorem wd_315 : (Cond.instanceMethod ({ cls := "PriorityKernel", name := "count", desc := "(I)I" } : MethodName)) ∈ kn_T := kn_m (List.mem_append_right _ (List.mem_of_getElem? (i := 315) rfl)) rfl
theorem wd_316 : (Cond.selects "PriorityKernel" ({ cls := "PriorityKernel", name := "count", desc := "(I)I" } : MethodName) ({ cls := "PriorityKernel", name := "count", desc := "(I)I" } : MethodName)) ∈ kn_T := kn_m (List.mem_append_right _ (List.mem_of_getElem? (i := 316) rfl)) rfl
theorem wd_317 : (Cond.code ({ cls := "PriorityKernel", name := "count", desc := "(I)I" } : MethodName) prog_1_method_20_code (2 : Nat) (Option.some FieldType.int)) ∈ kn_T := kn_m (List.mem_append_right _ (List.mem_of_getElem? (i := 317) rfl)) rfl
theorem wd_318 : (Cond.methodLink "PriorityKernel" (175 : Nat) ({ cls := "PriorityKernel", name := "readyThreads", desc := "()I" } : MethodName)) ∈ kn_T := kn_m (List.mem_append_right _ (List.mem_of_getElem? (i := 318) rfl)) rfl
theorem wd_320 : (Cond.instanceMethod ({ cls := "PriorityKernel", name := "readyThreads", desc := "()I" } : MethodName)) ∈ kn_T := kn_m (List.mem_append_right _ (List.mem_of_getElem? (i := 320) rfl)) rfl
theorem wd_321 : (Cond.code ({ cls := "PriorityKernel", name := "readyThreads", desc := "()I" } : MethodName) prog_1_method_26_code (6 : Nat) (Option.some FieldType.int)) ∈ kn_T := kn_m (List.mem_append_right _ (List.mem_of_getElem? (i := 321) rfl)) rfl
theorem wd_322 : (Cond.methodLink "PriorityKernelLaw" (9 : Nat) ({ cls := "PriorityKernelLaw", name := "cell", desc := "([II)I" } : MethodName)) ∈ kn_T := kn_m (List.mem_append_right _ (List.mem_of_getElem? (i := 322) rfl)) rfl
theorem wd_323 : (Cond.static ({ cls := "PriorityKernelLaw", name := "cell", desc := "([II)I" } : MethodName)) ∈ kn_T := kn_m (List.mem_append_right _ (List.mem_of_getElem? (i := 323) rfl)) rfl
theorem wd_324 : (Cond.code ({ cls := "PriorityKernelLaw", name := "cell", desc := "([II)I" } : MethodName) method_2_code (2 : Nat) (Option.some FieldType.int)) ∈ kn_T := kn_m (List.mem_append_right _ (List.mem_of_getElem? (i := 324) rfl)) rfl
theorem wd_325 : (Cond.classLink "PriorityKernelLaw" (18 : Nat) "PriorityKernelModel") ∈ kn_T := kn_m (List.mem_append_right _ (List.mem_of_getElem? (i := 325) rfl)) rfl
theorem wd_326 : (Cond.instantiable "PriorityKernelModel" (23 : Nat)) ∈ kn_T := kn_m (List.mem_append_right _ (List.mem_of_getElem? (i := 326) rfl)) rfl
theorem wd_327 : (Cond.methodLink "PriorityKernelLaw" (20 : Nat) ({ cls := "PriorityKernelModel", name := "<init>", desc := "(II)V" } : MethodName)) ∈ kn_T := kn_m (List.mem_append_right _ (List.mem_of_getElem? (i := 327) rfl)) rfl
theorem wd_328 : (Cond.instanceMethod ({ cls := "PriorityKernelModel", name := "<init>", desc := "(II)V" } : MethodName)) ∈ kn_T := kn_m (List.mem_append_right _ (List.mem_of_getElem? (i := 328) rfl)) rfl
theorem wd_329 : (Cond.code ({ cls := "PriorityKernelModel", name := "<init>", desc := "(II)V" } : MethodName) prog_5_method_1_code (4 : Nat) (Option.none : Option FieldType)) ∈ kn_T := kn_m (List.mem_append_right _ (List.mem_of_getElem? (i := 329) rfl)) rfl
theorem wd_330 : (Cond.methodLink "PriorityKernelModel" (1 : Nat) ({ cls := "java/lang/Object", name := "<init>", desc := "()V" } : MethodName)) ∈ kn_T := kn_m (List.mem_append_right _ (List.mem_of_getElem? (i := 330) rfl)) rfl
theorem wd_331 : (Cond.fieldLink "PriorityKernelModel" (75 : Nat) "PriorityKernelModel" "slice" "I") ∈ kn_T := kn_m (List.mem_append_right _ (List.mem_of_getElem? (i := 331) rfl)) rfl
theorem wd_332 : (Cond.fieldLink "PriorityKernelModel" (78 : Nat) "PriorityKernelModel" "ceiling" "I") ∈ kn_T := kn_m (List.mem_append_right _ (List.mem_of_getElem? (i := 332) rfl)) rfl
theorem wd_333 : (Cond.fieldLink "PriorityKernelModel" (7 : Nat) "PriorityKernelModel" "time" "I") ∈ kn_T := kn_m (List.mem_append_right _ (List.mem_of_getElem? (i := 333) rfl)) rfl
theorem wd_334 : (Cond.fieldLink "PriorityKernelModel" (13 : Nat) "PriorityKernelModel" "stamps" "I") ∈ kn_T := kn_m (List.mem_append_right _ (List.mem_of_getElem? (i := 334) rfl)) rfl
theorem wd_335 : (Cond.fieldLink "PriorityKernelModel" (16 : Nat) "PriorityKernelModel" "state" "[I") ∈ kn_T := kn_m (List.mem_append_right _ (List.mem_of_getElem? (i := 335) rfl)) rfl
theorem wd_336 : (Cond.fieldLink "PriorityKernelModel" (20 : Nat) "PriorityKernelModel" "base" "[I") ∈ kn_T := kn_m (List.mem_append_right _ (List.mem_of_getElem? (i := 336) rfl)) rfl
theorem wd_337 : (Cond.fieldLink "PriorityKernelModel" (23 : Nat) "PriorityKernelModel" "stamp" "[I") ∈ kn_T := kn_m (List.mem_append_right _ (List.mem_of_getElem? (i := 337) rfl)) rfl
theorem wd_338 : (Cond.fieldLink "PriorityKernelModel" (26 : Nat) "PriorityKernelModel" "used" "[I") ∈ kn_T := kn_m (List.mem_append_right _ (List.mem_of_getElem? (i := 338) rfl)) rfl
theorem wd_339 : (Cond.fieldLink "PriorityKernelModel" (29 : Nat) "PriorityKernelModel" "on" "[I") ∈ kn_T := kn_m (List.mem_append_right _ (List.mem_of_getElem? (i := 339) rfl)) rfl
theorem wd_340 : (Cond.fieldLink "PriorityKernelModel" (32 : Nat) "PriorityKernelModel" "since" "[I") ∈ kn_T := kn_m (List.mem_append_right _ (List.mem_of_getElem? (i := 340) rfl)) rfl
theorem wd_341 : (Cond.fieldLink "PriorityKernelModel" (35 : Nat) "PriorityKernelModel" "deadline" "[I") ∈ kn_T := kn_m (List.mem_append_right _ (List.mem_of_getElem? (i := 341) rfl)) rfl
theorem wd_342 : (Cond.fieldLink "PriorityKernelModel" (38 : Nat) "PriorityKernelModel" "result" "[I") ∈ kn_T := kn_m (List.mem_append_right _ (List.mem_of_getElem? (i := 342) rfl)) rfl
theorem wd_343 : (Cond.fieldLink "PriorityKernelModel" (41 : Nat) "PriorityKernelModel" "mind" "[I") ∈ kn_T := kn_m (List.mem_append_right _ (List.mem_of_getElem? (i := 343) rfl)) rfl
theorem wd_344 : (Cond.fieldLink "PriorityKernelModel" (44 : Nat) "PriorityKernelModel" "rank" "[I") ∈ kn_T := kn_m (List.mem_append_right _ (List.mem_of_getElem? (i := 344) rfl)) rfl
theorem wd_345 : (Cond.fieldLink "PriorityKernelModel" (47 : Nat) "PriorityKernelModel" "value" "[I") ∈ kn_T := kn_m (List.mem_append_right _ (List.mem_of_getElem? (i := 345) rfl)) rfl
theorem wd_346 : (Cond.fieldLink "PriorityKernelModel" (50 : Nat) "PriorityKernelModel" "sliced" "[Z") ∈ kn_T := kn_m (List.mem_append_right _ (List.mem_of_getElem? (i := 346) rfl)) rfl
theorem wd_347 : (Cond.fieldLink "PriorityKernelModel" (54 : Nat) "PriorityKernelModel" "retakes" "[Z") ∈ kn_T := kn_m (List.mem_append_right _ (List.mem_of_getElem? (i := 347) rfl)) rfl
theorem wd_348 : (Cond.fieldLink "PriorityKernelModel" (57 : Nat) "PriorityKernelModel" "owns" "[I") ∈ kn_T := kn_m (List.mem_append_right _ (List.mem_of_getElem? (i := 348) rfl)) rfl
theorem wd_349 : (Cond.fieldLink "PriorityKernelModel" (60 : Nat) "PriorityKernelModel" "count" "[I") ∈ kn_T := kn_m (List.mem_append_right _ (List.mem_of_getElem? (i := 349) rfl)) rfl
theorem wd_350 : (Cond.fieldLink "PriorityKernelModel" (63 : Nat) "PriorityKernelModel" "messages" "[I") ∈ kn_T := kn_m (List.mem_append_right _ (List.mem_of_getElem? (i := 350) rfl)) rfl
theorem wd_351 : (Cond.fieldLink "PriorityKernelModel" (66 : Nat) "PriorityKernelModel" "messageRank" "[I") ∈ kn_T := kn_m (List.mem_append_right _ (List.mem_of_getElem? (i := 351) rfl)) rfl
theorem wd_352 : (Cond.fieldLink "PriorityKernelModel" (69 : Nat) "PriorityKernelModel" "messageValue" "[I") ∈ kn_T := kn_m (List.mem_append_right _ (List.mem_of_getElem? (i := 352) rfl)) rfl
theorem wd_353 : (Cond.fieldLink "PriorityKernelModel" (72 : Nat) "PriorityKernelModel" "urgent" "[I") ∈ kn_T := kn_m (List.mem_append_right _ (List.mem_of_getElem? (i := 353) rfl)) rfl
set_option maxRecDepth 20000 in
theorem wd_401 : (Cond.arrayClass FieldType.boolean) ∈ kn_T := kn_m (List.mem_append_right _ (List.mem_of_getElem? (i := 401) rfl)) rfl
set_option maxRecDepth 20000 in
theorem wd_402 : (Cond.methodLink "PriorityKernelLaw" (89 : Nat) ({ cls := "PriorityKernelModel", name := "running", desc := "()I" } : MethodName)) ∈ kn_T := kn_m (List.mem_append_right _ (List.mem_of_getElem? (i := 402) rfl)) rfl
set_option maxRecDepth 20000 in
theorem wd_403 : (Cond.instanceMethod ({ cls := "PriorityKernelModel", name := "running", desc := "()I" } : MethodName)) ∈ kn_T := kn_m (List.mem_append_right _ (List.mem_of_getElem? (i := 403) rfl)) rfl
set_option maxRecDepth 20000 in
theorem wd_404 : (Cond.selects "PriorityKernelModel" ({ cls := "PriorityKernelModel", name := "running", desc := "()I" } : MethodName) ({ cls := "PriorityKernelModel", name := "running", desc := "()I" } : MethodName)) ∈ kn_T := kn_m (List.mem_append_right _ (List.mem_of_getElem? (i := 404) rfl)) rfl
set_option maxRecDepth 20000 in
theorem wd_405 : (Cond.code ({ cls := "PriorityKernelModel", name := "running", desc := "()I" } : MethodName) prog_5_method_7_code (3 : Nat) (Option.some FieldType.int)) ∈ kn_T := kn_m (List.mem_append_right _ (List.mem_of_getElem? (i := 405) rfl)) rfl
set_option maxRecDepth 20000 in
theorem wd_406 : (Cond.methodLink "PriorityKernelModel" (85 : Nat) ({ cls := "PriorityKernelModel", name := "weigh", desc := "()V" } : MethodName)) ∈ kn_T := kn_m (List.mem_append_right _ (List.mem_of_getElem? (i := 406) rfl)) rfl
set_option maxRecDepth 20000 in
theorem wd_408 : (Cond.instanceMethod ({ cls := "PriorityKernelModel", name := "weigh", desc := "()V" } : MethodName)) ∈ kn_T := kn_m (List.mem_append_right _ (List.mem_of_getElem? (i := 408) rfl)) rfl
set_option maxRecDepth 20000 in
theorem wd_409 : (Cond.code ({ cls := "PriorityKernelModel", name := "weigh", desc := "()V" } : MethodName) prog_5_method_6_code (4 : Nat) (Option.none : Option FieldType)) ∈ kn_T := kn_m (List.mem_append_right _ (List.mem_of_getElem? (i := 409) rfl)) rfl
set_option maxRecDepth 20000 in
theorem wd_410 : (Cond.methodLink "PriorityKernelLaw" (25 : Nat) ({ cls := "PriorityKernelModel", name := "spawn", desc := "(IZ)I" } : MethodName)) ∈ kn_T := kn_m (List.mem_append_right _ (List.mem_of_getElem? (i := 410) rfl)) rfl
set_option maxRecDepth 20000 in
theorem wd_411 : (Cond.instanceMethod ({ cls := "PriorityKernelModel", name := "spawn", desc := "(IZ)I" } : MethodName)) ∈ kn_T := kn_m (List.mem_append_right _ (List.mem_of_getElem? (i := 411) rfl)) rfl
set_option maxRecDepth 20000 in
theorem wd_412 : (Cond.selects "PriorityKernelModel" ({ cls := "PriorityKernelModel", name := "spawn", desc := "(IZ)I" } : MethodName) ({ cls := "PriorityKernelModel", name := "spawn", desc := "(IZ)I" } : MethodName)) ∈ kn_T := kn_m (List.mem_append_right _ (List.mem_of_getElem? (i := 412) rfl)) rfl
set_option maxRecDepth 20000 in
theorem wd_413 : (Cond.code ({ cls := "PriorityKernelModel", name := "spawn", desc := "(IZ)I" } : MethodName) prog_5_method_11_code (4 : Nat) (Option.some FieldType.int)) ∈ kn_T := kn_m (List.mem_append_right _ (List.mem_of_getElem? (i := 413) rfl)) rfl
set_option maxRecDepth 20000 in
theorem wd_414 : (Cond.methodLink "PriorityKernelModel" (92 : Nat) ({ cls := "PriorityKernelModel", name := "ready", desc := "(I)V" } : MethodName)) ∈ kn_T := kn_m (List.mem_append_right _ (List.mem_of_getElem? (i := 414) rfl)) rfl
set_option maxRecDepth 20000 in
theorem wd_416 : (Cond.instanceMethod ({ cls := "PriorityKernelModel", name := "ready", desc := "(I)V" } : MethodName)) ∈ kn_T := kn_m (List.mem_append_right _ (List.mem_of_getElem? (i := 416) rfl)) rfl
set_option maxRecDepth 20000 in
theorem wd_417 : (Cond.code ({ cls := "PriorityKernelModel", name := "ready", desc := "(I)V" } : MethodName) prog_5_method_4_code (2 : Nat) (Option.none : Option FieldType)) ∈ kn_T := kn_m (List.mem_append_right _ (List.mem_of_getElem? (i := 417) rfl)) rfl
set_option maxRecDepth 20000 in
theorem wd_418 : (Cond.methodLink "PriorityKernelModel" (81 : Nat) ({ cls := "PriorityKernelModel", name := "newStamp", desc := "()I" } : MethodName)) ∈ kn_T := kn_m (List.mem_append_right _ (List.mem_of_getElem? (i := 418) rfl)) rfl
set_option maxRecDepth 20000 in
theorem wd_420 : (Cond.instanceMethod ({ cls := "PriorityKernelModel", name := "newStamp", desc := "()I" } : MethodName)) ∈ kn_T := kn_m (List.mem_append_right _ (List.mem_of_getElem? (i := 420) rfl)) rfl
set_option maxRecDepth 20000 in
theorem wd_421 : (Cond.code ({ cls := "PriorityKernelModel", name := "newStamp", desc := "()I" } : MethodName) prog_5_method_3_code (1 : Nat) (Option.some FieldType.int)) ∈ kn_T := kn_m (List.mem_append_right _ (List.mem_of_getElem? (i := 421) rfl)) rfl
set_option maxRecDepth 20000 in
theorem wd_422 : (Cond.methodLink "PriorityKernelLaw" (30 : Nat) ({ cls := "PriorityKernelModel", name := "priority", desc := "(II)I" } : MethodName)) ∈ kn_T := kn_m (List.mem_append_right _ (List.mem_of_getElem? (i := 422) rfl)) rfl
set_option maxRecDepth 20000 in
theorem wd_423 : (Cond.instanceMethod ({ cls := "PriorityKernelModel", name := "priority", desc := "(II)I" } : MethodName)) ∈ kn_T := kn_m (List.mem_append_right _ (List.mem_of_getElem? (i := 423) rfl)) rfl
set_option maxRecDepth 20000 in
theorem wd_424 : (Cond.selects "PriorityKernelModel" ({ cls := "PriorityKernelModel", name := "priority", desc := "(II)I" } : MethodName) ({ cls := "PriorityKernelModel", name := "priority", desc := "(II)I" } : MethodName)) ∈ kn_T := kn_m (List.mem_append_right _ (List.mem_of_getElem? (i := 424) rfl)) rfl
set_option maxRecDepth 20000 in
theorem wd_425 : (Cond.code ({ cls := "PriorityKernelModel", name := "priority", desc := "(II)I" } : MethodName) prog_5_method_12_code (3 : Nat) (Option.some FieldType.int)) ∈ kn_T := kn_m (List.mem_append_right _ (List.mem_of_getElem? (i := 425) rfl)) rfl
set_option maxRecDepth 20000 in
theorem wd_426 : (Cond.methodLink "PriorityKernelModel" (100 : Nat) ({ cls := "PriorityKernelModel", name := "out", desc := "(II)Z" } : MethodName)) ∈ kn_T := kn_m (List.mem_append_right _ (List.mem_of_getElem? (i := 426) rfl)) rfl
set_option maxRecDepth 20000 in
theorem wd_428 : (Cond.instanceMethod ({ cls := "PriorityKernelModel", name := "out", desc := "(II)Z" } : MethodName)) ∈ kn_T := kn_m (List.mem_append_right _ (List.mem_of_getElem? (i := 428) rfl)) rfl
set_option maxRecDepth 20000 in
theorem wd_429 : (Cond.code ({ cls := "PriorityKernelModel", name := "out", desc := "(II)Z" } : MethodName) prog_5_method_2_code (3 : Nat) (Option.some FieldType.boolean)) ∈ kn_T := kn_m (List.mem_append_right _ (List.mem_of_getElem? (i := 429) rfl)) rfl
set_option maxRecDepth 20000 in
theorem wd_430 : (Cond.methodLink "PriorityKernelLaw" (35 : Nat) ({ cls := "PriorityKernelModel", name := "pass", desc := "()I" } : MethodName)) ∈ kn_T := kn_m (List.mem_append_right _ (List.mem_of_getElem? (i := 430) rfl)) rfl
set_option maxRecDepth 20000 in
theorem wd_431 : (Cond.instanceMethod ({ cls := "PriorityKernelModel", name := "pass", desc := "()I" } : MethodName)) ∈ kn_T := kn_m (List.mem_append_right _ (List.mem_of_getElem? (i := 431) rfl)) rfl
set_option maxRecDepth 20000 in
theorem wd_432 : (Cond.selects "PriorityKernelModel" ({ cls := "PriorityKernelModel", name := "pass", desc := "()I" } : MethodName) ({ cls := "PriorityKernelModel", name := "pass", desc := "()I" } : MethodName)) ∈ kn_T := kn_m (List.mem_append_right _ (List.mem_of_getElem? (i := 432) rfl)) rfl
set_option maxRecDepth 20000 in
theorem wd_433 : (Cond.code ({ cls := "PriorityKernelModel", name := "pass", desc := "()I" } : MethodName) prog_5_method_13_code (2 : Nat) (Option.some FieldType.int)) ∈ kn_T := kn_m (List.mem_append_right _ (List.mem_of_getElem? (i := 433) rfl)) rfl
set_option maxRecDepth 20000 in
theorem wd_434 : (Cond.methodLink "PriorityKernelModel" (104 : Nat) ({ cls := "PriorityKernelModel", name := "running", desc := "()I" } : MethodName)) ∈ kn_T := kn_m (List.mem_append_right _ (List.mem_of_getElem? (i := 434) rfl)) rfl
set_option maxRecDepth 20000 in
theorem wd_435 : (Cond.methodLink "PriorityKernelLaw" (40 : Nat) ({ cls := "PriorityKernelModel", name := "lock", desc := "(I)I" } : MethodName)) ∈ kn_T := kn_m (List.mem_append_right _ (List.mem_of_getElem? (i := 435) rfl)) rfl
set_option maxRecDepth 20000 in
theorem wd_436 : (Cond.instanceMethod ({ cls := "PriorityKernelModel", name := "lock", desc := "(I)I" } : MethodName)) ∈ kn_T := kn_m (List.mem_append_right _ (List.mem_of_getElem? (i := 436) rfl)) rfl
set_option maxRecDepth 20000 in
theorem wd_437 : (Cond.selects "PriorityKernelModel" ({ cls := "PriorityKernelModel", name := "lock", desc := "(I)I" } : MethodName) ({ cls := "PriorityKernelModel", name := "lock", desc := "(I)I" } : MethodName)) ∈ kn_T := kn_m (List.mem_append_right _ (List.mem_of_getElem? (i := 437) rfl)) rfl
set_option maxRecDepth 20000 in
theorem wd_438 : (Cond.code ({ cls := "PriorityKernelModel", name := "lock", desc := "(I)I" } : MethodName) prog_5_method_14_code (3 : Nat) (Option.some FieldType.int)) ∈ kn_T := kn_m (List.mem_append_right _ (List.mem_of_getElem? (i := 438) rfl)) rfl
set_option maxRecDepth 20000 in
theorem wd_439 : (Cond.methodLink "PriorityKernelModel" (96 : Nat) ({ cls := "PriorityKernelModel", name := "block", desc := "(III)V" } : MethodName)) ∈ kn_T := kn_m (List.mem_append_right _ (List.mem_of_getElem? (i := 439) rfl)) rfl
set_option maxRecDepth 20000 in
theorem wd_441 : (Cond.instanceMethod ({ cls := "PriorityKernelModel", name := "block", desc := "(III)V" } : MethodName)) ∈ kn_T := kn_m (List.mem_append_right _ (List.mem_of_getElem? (i := 441) rfl)) rfl
set_option maxRecDepth 20000 in
theorem wd_442 : (Cond.code ({ cls := "PriorityKernelModel", name := "block", desc := "(III)V" } : MethodName) prog_5_method_5_code (4 : Nat) (Option.none : Option FieldType)) ∈ kn_T := kn_m (List.mem_append_right _ (List.mem_of_getElem? (i := 442) rfl)) rfl
set_option maxRecDepth 20000 in
theorem wd_443 : (Cond.methodLink "PriorityKernelLaw" (44 : Nat) ({ cls := "PriorityKernelModel", name := "unlock", desc := "(I)I" } : MethodName)) ∈ kn_T := kn_m (List.mem_append_right _ (List.mem_of_getElem? (i := 443) rfl)) rfl
set_option maxRecDepth 20000 in
theorem wd_444 : (Cond.instanceMethod ({ cls := "PriorityKernelModel", name := "unlock", desc := "(I)I" } : MethodName)) ∈ kn_T := kn_m (List.mem_append_right _ (List.mem_of_getElem? (i := 444) rfl)) rfl
set_option maxRecDepth 20000 in
theorem wd_445 : (Cond.selects "PriorityKernelModel" ({ cls := "PriorityKernelModel", name := "unlock", desc := "(I)I" } : MethodName) ({ cls := "PriorityKernelModel", name := "unlock", desc := "(I)I" } : MethodName)) ∈ kn_T := kn_m (List.mem_append_right _ (List.mem_of_getElem? (i := 445) rfl)) rfl
set_option maxRecDepth 20000 in
theorem wd_446 : (Cond.code ({ cls := "PriorityKernelModel", name := "unlock", desc := "(I)I" } : MethodName) prog_5_method_15_code (3 : Nat) (Option.some FieldType.int)) ∈ kn_T := kn_m (List.mem_append_right _ (List.mem_of_getElem? (i := 446) rfl)) rfl
set_option maxRecDepth 20000 in
theorem wd_447 : (Cond.methodLink "PriorityKernelModel" (107 : Nat) ({ cls := "PriorityKernelModel", name := "give", desc := "(I)V" } : MethodName)) ∈ kn_T := kn_m (List.mem_append_right _ (List.mem_of_getElem? (i := 447) rfl)) rfl
set_option maxRecDepth 20000 in
theorem wd_449 : (Cond.instanceMethod ({ cls := "PriorityKernelModel", name := "give", desc := "(I)V" } : MethodName)) ∈ kn_T := kn_m (List.mem_append_right _ (List.mem_of_getElem? (i := 449) rfl)) rfl
set_option maxRecDepth 20000 in
theorem wd_450 : (Cond.code ({ cls := "PriorityKernelModel", name := "give", desc := "(I)V" } : MethodName) prog_5_method_9_code (3 : Nat) (Option.none : Option FieldType)) ∈ kn_T := kn_m (List.mem_append_right _ (List.mem_of_getElem? (i := 450) rfl)) rfl
set_option maxRecDepth 20000 in
theorem wd_451 : (Cond.methodLink "PriorityKernelModel" (88 : Nat) ({ cls := "PriorityKernelModel", name := "firstWaiter", desc := "(I)I" } : MethodName)) ∈ kn_T := kn_m (List.mem_append_right _ (List.mem_of_getElem? (i := 451) rfl)) rfl
set_option maxRecDepth 20000 in
theorem wd_453 : (Cond.instanceMethod ({ cls := "PriorityKernelModel", name := "firstWaiter", desc := "(I)I" } : MethodName)) ∈ kn_T := kn_m (List.mem_append_right _ (List.mem_of_getElem? (i := 453) rfl)) rfl
set_option maxRecDepth 20000 in
theorem wd_454 : (Cond.code ({ cls := "PriorityKernelModel", name := "firstWaiter", desc := "(I)I" } : MethodName) prog_5_method_8_code (4 : Nat) (Option.some FieldType.int)) ∈ kn_T := kn_m (List.mem_append_right _ (List.mem_of_getElem? (i := 454) rfl)) rfl
set_option maxRecDepth 20000 in
theorem wd_455 : (Cond.methodLink "PriorityKernelLaw" (49 : Nat) ({ cls := "PriorityKernelModel", name := "await", desc := "(III)I" } : MethodName)) ∈ kn_T := kn_m (List.mem_append_right _ (List.mem_of_getElem? (i := 455) rfl)) rfl
set_option maxRecDepth 20000 in
theorem wd_456 : (Cond.instanceMethod ({ cls := "PriorityKernelModel", name := "await", desc := "(III)I" } : MethodName)) ∈ kn_T := kn_m (List.mem_append_right _ (List.mem_of_getElem? (i := 456) rfl)) rfl
set_option maxRecDepth 20000 in
theorem wd_457 : (Cond.selects "PriorityKernelModel" ({ cls := "PriorityKernelModel", name := "await", desc := "(III)I" } : MethodName) ({ cls := "PriorityKernelModel", name := "await", desc := "(III)I" } : MethodName)) ∈ kn_T := kn_m (List.mem_append_right _ (List.mem_of_getElem? (i := 457) rfl)) rfl
set_option maxRecDepth 20000 in
theorem wd_458 : (Cond.code ({ cls := "PriorityKernelModel", name := "await", desc := "(III)I" } : MethodName) prog_5_method_16_code (5 : Nat) (Option.some FieldType.int)) ∈ kn_T := kn_m (List.mem_append_right _ (List.mem_of_getElem? (i := 458) rfl)) rfl
set_option maxRecDepth 20000 in
theorem wd_459 : (Cond.methodLink "PriorityKernelLaw" (53 : Nat) ({ cls := "PriorityKernelModel", name := "signal", desc := "(IZ)I" } : MethodName)) ∈ kn_T := kn_m (List.mem_append_right _ (List.mem_of_getElem? (i := 459) rfl)) rfl
set_option maxRecDepth 20000 in
theorem wd_460 : (Cond.instanceMethod ({ cls := "PriorityKernelModel", name := "signal", desc := "(IZ)I" } : MethodName)) ∈ kn_T := kn_m (List.mem_append_right _ (List.mem_of_getElem? (i := 460) rfl)) rfl
set_option maxRecDepth 20000 in
theorem wd_461 : (Cond.selects "PriorityKernelModel" ({ cls := "PriorityKernelModel", name := "signal", desc := "(IZ)I" } : MethodName) ({ cls := "PriorityKernelModel", name := "signal", desc := "(IZ)I" } : MethodName)) ∈ kn_T := kn_m (List.mem_append_right _ (List.mem_of_getElem? (i := 461) rfl)) rfl
set_option maxRecDepth 20000 in
theorem wd_462 : (Cond.code ({ cls := "PriorityKernelModel", name := "signal", desc := "(IZ)I" } : MethodName) prog_5_method_17_code (6 : Nat) (Option.some FieldType.int)) ∈ kn_T := kn_m (List.mem_append_right _ (List.mem_of_getElem? (i := 462) rfl)) rfl
set_option maxRecDepth 20000 in
theorem wd_463 : (Cond.methodLink "PriorityKernelModel" (110 : Nat) ({ cls := "PriorityKernelModel", name := "retake", desc := "(II)V" } : MethodName)) ∈ kn_T := kn_m (List.mem_append_right _ (List.mem_of_getElem? (i := 463) rfl)) rfl
set_option maxRecDepth 20000 in
theorem wd_465 : (Cond.instanceMethod ({ cls := "PriorityKernelModel", name := "retake", desc := "(II)V" } : MethodName)) ∈ kn_T := kn_m (List.mem_append_right _ (List.mem_of_getElem? (i := 465) rfl)) rfl
set_option maxRecDepth 20000 in
theorem wd_466 : (Cond.code ({ cls := "PriorityKernelModel", name := "retake", desc := "(II)V" } : MethodName) prog_5_method_10_code (4 : Nat) (Option.none : Option FieldType)) ∈ kn_T := kn_m (List.mem_append_right _ (List.mem_of_getElem? (i := 466) rfl)) rfl
set_option maxRecDepth 20000 in
theorem wd_467 : (Cond.methodLink "PriorityKernelLaw" (57 : Nat) ({ cls := "PriorityKernelModel", name := "down", desc := "(II)I" } : MethodName)) ∈ kn_T := kn_m (List.mem_append_right _ (List.mem_of_getElem? (i := 467) rfl)) rfl
set_option maxRecDepth 20000 in
theorem wd_468 : (Cond.instanceMethod ({ cls := "PriorityKernelModel", name := "down", desc := "(II)I" } : MethodName)) ∈ kn_T := kn_m (List.mem_append_right _ (List.mem_of_getElem? (i := 468) rfl)) rfl
set_option maxRecDepth 20000 in
theorem wd_469 : (Cond.selects "PriorityKernelModel" ({ cls := "PriorityKernelModel", name := "down", desc := "(II)I" } : MethodName) ({ cls := "PriorityKernelModel", name := "down", desc := "(II)I" } : MethodName)) ∈ kn_T := kn_m (List.mem_append_right _ (List.mem_of_getElem? (i := 469) rfl)) rfl
set_option maxRecDepth 20000 in
theorem wd_470 : (Cond.code ({ cls := "PriorityKernelModel", name := "down", desc := "(II)I" } : MethodName) prog_5_method_18_code (4 : Nat) (Option.some FieldType.int)) ∈ kn_T := kn_m (List.mem_append_right _ (List.mem_of_getElem? (i := 470) rfl)) rfl
set_option maxRecDepth 20000 in
theorem wd_471 : (Cond.methodLink "PriorityKernelLaw" (61 : Nat) ({ cls := "PriorityKernelModel", name := "post", desc := "(I)I" } : MethodName)) ∈ kn_T := kn_m (List.mem_append_right _ (List.mem_of_getElem? (i := 471) rfl)) rfl
set_option maxRecDepth 20000 in
theorem wd_472 : (Cond.instanceMethod ({ cls := "PriorityKernelModel", name := "post", desc := "(I)I" } : MethodName)) ∈ kn_T := kn_m (List.mem_append_right _ (List.mem_of_getElem? (i := 472) rfl)) rfl
set_option maxRecDepth 20000 in
theorem wd_473 : (Cond.selects "PriorityKernelModel" ({ cls := "PriorityKernelModel", name := "post", desc := "(I)I" } : MethodName) ({ cls := "PriorityKernelModel", name := "post", desc := "(I)I" } : MethodName)) ∈ kn_T := kn_m (List.mem_append_right _ (List.mem_of_getElem? (i := 473) rfl)) rfl
set_option maxRecDepth 20000 in
theorem wd_474 : (Cond.code ({ cls := "PriorityKernelModel", name := "post", desc := "(I)I" } : MethodName) prog_5_method_19_code (3 : Nat) (Option.some FieldType.int)) ∈ kn_T := kn_m (List.mem_append_right _ (List.mem_of_getElem? (i := 474) rfl)) rfl
set_option maxRecDepth 20000 in
theorem wd_475 : (Cond.methodLink "PriorityKernelLaw" (65 : Nat) ({ cls := "PriorityKernelModel", name := "send", desc := "(III)I" } : MethodName)) ∈ kn_T := kn_m (List.mem_append_right _ (List.mem_of_getElem? (i := 475) rfl)) rfl
set_option maxRecDepth 20000 in
theorem wd_476 : (Cond.instanceMethod ({ cls := "PriorityKernelModel", name := "send", desc := "(III)I" } : MethodName)) ∈ kn_T := kn_m (List.mem_append_right _ (List.mem_of_getElem? (i := 476) rfl)) rfl
set_option maxRecDepth 20000 in
theorem wd_477 : (Cond.selects "PriorityKernelModel" ({ cls := "PriorityKernelModel", name := "send", desc := "(III)I" } : MethodName) ({ cls := "PriorityKernelModel", name := "send", desc := "(III)I" } : MethodName)) ∈ kn_T := kn_m (List.mem_append_right _ (List.mem_of_getElem? (i := 477) rfl)) rfl
set_option maxRecDepth 20000 in
theorem wd_478 : (Cond.code ({ cls := "PriorityKernelModel", name := "send", desc := "(III)I" } : MethodName) prog_5_method_21_code (6 : Nat) (Option.some FieldType.int)) ∈ kn_T := kn_m (List.mem_append_right _ (List.mem_of_getElem? (i := 478) rfl)) rfl
set_option maxRecDepth 20000 in
theorem wd_479 : (Cond.methodLink "PriorityKernelModel" (114 : Nat) ({ cls := "PriorityKernelModel", name := "comeIn", desc := "(III)V" } : MethodName)) ∈ kn_T := kn_m (List.mem_append_right _ (List.mem_of_getElem? (i := 479) rfl)) rfl
set_option maxRecDepth 20000 in
theorem wd_481 : (Cond.instanceMethod ({ cls := "PriorityKernelModel", name := "comeIn", desc := "(III)V" } : MethodName)) ∈ kn_T := kn_m (List.mem_append_right _ (List.mem_of_getElem? (i := 481) rfl)) rfl
set_option maxRecDepth 20000 in
theorem wd_482 : (Cond.code ({ cls := "PriorityKernelModel", name := "comeIn", desc := "(III)V" } : MethodName) prog_5_method_20_code (5 : Nat) (Option.none : Option FieldType)) ∈ kn_T := kn_m (List.mem_append_right _ (List.mem_of_getElem? (i := 482) rfl)) rfl
set_option maxRecDepth 20000 in
theorem wd_483 : (Cond.methodLink "PriorityKernelLaw" (69 : Nat) ({ cls := "PriorityKernelModel", name := "receive", desc := "(I)I" } : MethodName)) ∈ kn_T := kn_m (List.mem_append_right _ (List.mem_of_getElem? (i := 483) rfl)) rfl
set_option maxRecDepth 20000 in
theorem wd_484 : (Cond.instanceMethod ({ cls := "PriorityKernelModel", name := "receive", desc := "(I)I" } : MethodName)) ∈ kn_T := kn_m (List.mem_append_right _ (List.mem_of_getElem? (i := 484) rfl)) rfl
set_option maxRecDepth 20000 in
theorem wd_485 : (Cond.selects "PriorityKernelModel" ({ cls := "PriorityKernelModel", name := "receive", desc := "(I)I" } : MethodName) ({ cls := "PriorityKernelModel", name := "receive", desc := "(I)I" } : MethodName)) ∈ kn_T := kn_m (List.mem_append_right _ (List.mem_of_getElem? (i := 485) rfl)) rfl
set_option maxRecDepth 20000 in
theorem wd_486 : (Cond.code ({ cls := "PriorityKernelModel", name := "receive", desc := "(I)I" } : MethodName) prog_5_method_22_code (4 : Nat) (Option.some FieldType.int)) ∈ kn_T := kn_m (List.mem_append_right _ (List.mem_of_getElem? (i := 486) rfl)) rfl
set_option maxRecDepth 20000 in
theorem wd_487 : (Cond.methodLink "PriorityKernelLaw" (73 : Nat) ({ cls := "PriorityKernelModel", name := "sleep", desc := "(I)I" } : MethodName)) ∈ kn_T := kn_m (List.mem_append_right _ (List.mem_of_getElem? (i := 487) rfl)) rfl
set_option maxRecDepth 20000 in
theorem wd_488 : (Cond.instanceMethod ({ cls := "PriorityKernelModel", name := "sleep", desc := "(I)I" } : MethodName)) ∈ kn_T := kn_m (List.mem_append_right _ (List.mem_of_getElem? (i := 488) rfl)) rfl
set_option maxRecDepth 20000 in
theorem wd_489 : (Cond.selects "PriorityKernelModel" ({ cls := "PriorityKernelModel", name := "sleep", desc := "(I)I" } : MethodName) ({ cls := "PriorityKernelModel", name := "sleep", desc := "(I)I" } : MethodName)) ∈ kn_T := kn_m (List.mem_append_right _ (List.mem_of_getElem? (i := 489) rfl)) rfl
set_option maxRecDepth 20000 in
theorem wd_490 : (Cond.code ({ cls := "PriorityKernelModel", name := "sleep", desc := "(I)I" } : MethodName) prog_5_method_23_code (3 : Nat) (Option.some FieldType.int)) ∈ kn_T := kn_m (List.mem_append_right _ (List.mem_of_getElem? (i := 490) rfl)) rfl
set_option maxRecDepth 20000 in
theorem wd_491 : (Cond.methodLink "PriorityKernelLaw" (77 : Nat) ({ cls := "PriorityKernelModel", name := "join", desc := "(I)I" } : MethodName)) ∈ kn_T := kn_m (List.mem_append_right _ (List.mem_of_getElem? (i := 491) rfl)) rfl
set_option maxRecDepth 20000 in
theorem wd_492 : (Cond.instanceMethod ({ cls := "PriorityKernelModel", name := "join", desc := "(I)I" } : MethodName)) ∈ kn_T := kn_m (List.mem_append_right _ (List.mem_of_getElem? (i := 492) rfl)) rfl
set_option maxRecDepth 20000 in
theorem wd_493 : (Cond.selects "PriorityKernelModel" ({ cls := "PriorityKernelModel", name := "join", desc := "(I)I" } : MethodName) ({ cls := "PriorityKernelModel", name := "join", desc := "(I)I" } : MethodName)) ∈ kn_T := kn_m (List.mem_append_right _ (List.mem_of_getElem? (i := 493) rfl)) rfl
set_option maxRecDepth 20000 in
theorem wd_494 : (Cond.code ({ cls := "PriorityKernelModel", name := "join", desc := "(I)I" } : MethodName) prog_5_method_24_code (3 : Nat) (Option.some FieldType.int)) ∈ kn_T := kn_m (List.mem_append_right _ (List.mem_of_getElem? (i := 494) rfl)) rfl
set_option maxRecDepth 20000 in
theorem wd_495 : (Cond.methodLink "PriorityKernelLaw" (81 : Nat) ({ cls := "PriorityKernelModel", name := "exit", desc := "(I)I" } : MethodName)) ∈ kn_T := kn_m (List.mem_append_right _ (List.mem_of_getElem? (i := 495) rfl)) rfl
set_option maxRecDepth 20000 in
theorem wd_496 : (Cond.instanceMethod ({ cls := "PriorityKernelModel", name := "exit", desc := "(I)I" } : MethodName)) ∈ kn_T := kn_m (List.mem_append_right _ (List.mem_of_getElem? (i := 496) rfl)) rfl
set_option maxRecDepth 20000 in
theorem wd_497 : (Cond.selects "PriorityKernelModel" ({ cls := "PriorityKernelModel", name := "exit", desc := "(I)I" } : MethodName) ({ cls := "PriorityKernelModel", name := "exit", desc := "(I)I" } : MethodName)) ∈ kn_T := kn_m (List.mem_append_right _ (List.mem_of_getElem? (i := 497) rfl)) rfl
set_option maxRecDepth 20000 in
theorem wd_498 : (Cond.code ({ cls := "PriorityKernelModel", name := "exit", desc := "(I)I" } : MethodName) prog_5_method_25_code (4 : Nat) (Option.some FieldType.int)) ∈ kn_T := kn_m (List.mem_append_right _ (List.mem_of_getElem? (i := 498) rfl)) rfl
set_option maxRecDepth 20000 in
theorem wd_499 : (Cond.methodLink "PriorityKernelLaw" (85 : Nat) ({ cls := "PriorityKernelModel", name := "tick", desc := "(I)I" } : MethodName)) ∈ kn_T := kn_m (List.mem_append_right _ (List.mem_of_getElem? (i := 499) rfl)) rfl
set_option maxRecDepth 20000 in
theorem wd_500 : (Cond.instanceMethod ({ cls := "PriorityKernelModel", name := "tick", desc := "(I)I" } : MethodName)) ∈ kn_T := kn_m (List.mem_append_right _ (List.mem_of_getElem? (i := 500) rfl)) rfl
set_option maxRecDepth 20000 in
theorem wd_501 : (Cond.selects "PriorityKernelModel" ({ cls := "PriorityKernelModel", name := "tick", desc := "(I)I" } : MethodName) ({ cls := "PriorityKernelModel", name := "tick", desc := "(I)I" } : MethodName)) ∈ kn_T := kn_m (List.mem_append_right _ (List.mem_of_getElem? (i := 501) rfl)) rfl
set_option maxRecDepth 20000 in
theorem wd_502 : (Cond.code ({ cls := "PriorityKernelModel", name := "tick", desc := "(I)I" } : MethodName) prog_5_method_27_code (5 : Nat) (Option.some FieldType.int)) ∈ kn_T := kn_m (List.mem_append_right _ (List.mem_of_getElem? (i := 502) rfl)) rfl
set_option maxRecDepth 20000 in
theorem wd_503 : (Cond.methodLink "PriorityKernelModel" (117 : Nat) ({ cls := "PriorityKernelModel", name := "deadlineComes", desc := "(I)V" } : MethodName)) ∈ kn_T := kn_m (List.mem_append_right _ (List.mem_of_getElem? (i := 503) rfl)) rfl
set_option maxRecDepth 20000 in
theorem wd_505 : (Cond.instanceMethod ({ cls := "PriorityKernelModel", name := "deadlineComes", desc := "(I)V" } : MethodName)) ∈ kn_T := kn_m (List.mem_append_right _ (List.mem_of_getElem? (i := 505) rfl)) rfl
set_option maxRecDepth 20000 in
theorem wd_506 : (Cond.code ({ cls := "PriorityKernelModel", name := "deadlineComes", desc := "(I)V" } : MethodName) prog_5_method_26_code (2 : Nat) (Option.none : Option FieldType)) ∈ kn_T := kn_m (List.mem_append_right _ (List.mem_of_getElem? (i := 506) rfl)) rfl
set_option maxRecDepth 20000 in
theorem wd_507 : (Cond.methodLink "PriorityKernelLaw" (94 : Nat) ({ cls := "PriorityKernelModel", name := "tell", desc := "(II)J" } : MethodName)) ∈ kn_T := kn_m (List.mem_append_right _ (List.mem_of_getElem? (i := 507) rfl)) rfl
set_option maxRecDepth 20000 in
theorem wd_508 : (Cond.instanceMethod ({ cls := "PriorityKernelModel", name := "tell", desc := "(II)J" } : MethodName)) ∈ kn_T := kn_m (List.mem_append_right _ (List.mem_of_getElem? (i := 508) rfl)) rfl
set_option maxRecDepth 20000 in
theorem wd_509 : (Cond.selects "PriorityKernelModel" ({ cls := "PriorityKernelModel", name := "tell", desc := "(II)J" } : MethodName) ({ cls := "PriorityKernelModel", name := "tell", desc := "(II)J" } : MethodName)) ∈ kn_T := kn_m (List.mem_append_right _ (List.mem_of_getElem? (i := 509) rfl)) rfl
set_option maxRecDepth 20000 in
theorem wd_510 : (Cond.code ({ cls := "PriorityKernelModel", name := "tell", desc := "(II)J" } : MethodName) prog_5_method_28_code (3 : Nat) (Option.some FieldType.long)) ∈ kn_T := kn_m (List.mem_append_right _ (List.mem_of_getElem? (i := 510) rfl)) rfl
set_option maxRecDepth 20000 in
theorem wd_511 : (Cond.constantLong "PriorityKernelModel" (120 : Nat) (1000000000000 : Int64)) ∈ kn_T := kn_m (List.mem_append_right _ (List.mem_of_getElem? (i := 511) rfl)) rfl
set_option maxRecDepth 20000 in
theorem wd_512 : (Cond.methodLink "PriorityKernelLaw" (98 : Nat) ({ cls := "PriorityKernelModel", name := "owner", desc := "(I)I" } : MethodName)) ∈ kn_T := kn_m (List.mem_append_right _ (List.mem_of_getElem? (i := 512) rfl)) rfl
set_option maxRecDepth 20000 in
theorem wd_513 : (Cond.instanceMethod ({ cls := "PriorityKernelModel", name := "owner", desc := "(I)I" } : MethodName)) ∈ kn_T := kn_m (List.mem_append_right _ (List.mem_of_getElem? (i := 513) rfl)) rfl
set_option maxRecDepth 20000 in
theorem wd_514 : (Cond.selects "PriorityKernelModel" ({ cls := "PriorityKernelModel", name := "owner", desc := "(I)I" } : MethodName) ({ cls := "PriorityKernelModel", name := "owner", desc := "(I)I" } : MethodName)) ∈ kn_T := kn_m (List.mem_append_right _ (List.mem_of_getElem? (i := 514) rfl)) rfl
set_option maxRecDepth 20000 in
theorem wd_515 : (Cond.code ({ cls := "PriorityKernelModel", name := "owner", desc := "(I)I" } : MethodName) prog_5_method_29_code (2 : Nat) (Option.some FieldType.int)) ∈ kn_T := kn_m (List.mem_append_right _ (List.mem_of_getElem? (i := 515) rfl)) rfl
set_option maxRecDepth 20000 in
theorem wd_516 : (Cond.methodLink "PriorityKernelLaw" (102 : Nat) ({ cls := "PriorityKernelModel", name := "count", desc := "(I)I" } : MethodName)) ∈ kn_T := kn_m (List.mem_append_right _ (List.mem_of_getElem? (i := 516) rfl)) rfl
set_option maxRecDepth 20000 in
theorem wd_517 : (Cond.instanceMethod ({ cls := "PriorityKernelModel", name := "count", desc := "(I)I" } : MethodName)) ∈ kn_T := kn_m (List.mem_append_right _ (List.mem_of_getElem? (i := 517) rfl)) rfl
set_option maxRecDepth 20000 in
theorem wd_518 : (Cond.selects "PriorityKernelModel" ({ cls := "PriorityKernelModel", name := "count", desc := "(I)I" } : MethodName) ({ cls := "PriorityKernelModel", name := "count", desc := "(I)I" } : MethodName)) ∈ kn_T := kn_m (List.mem_append_right _ (List.mem_of_getElem? (i := 518) rfl)) rfl
set_option maxRecDepth 20000 in
theorem wd_519 : (Cond.code ({ cls := "PriorityKernelModel", name := "count", desc := "(I)I" } : MethodName) prog_5_method_30_code (4 : Nat) (Option.some FieldType.int)) ∈ kn_T := kn_m (List.mem_append_right _ (List.mem_of_getElem? (i := 519) rfl)) rfl
theorem gv_Q_22 {c0 : Cond} : GoodIn (c0 :: kn_T) (wsV R_Q 22 R_Q y_Q_isFull ws_Q_isFull) := kn_V wd_255 wd_244 wd_245 wd_4 wd_246
theorem gv_Q_26 {c0 : Cond} : GoodIn (c0 :: kn_T) (wsV R_Q 26 R_Q y_Q_isEmpty ws_Q_isEmpty) := kn_V wd_268 wd_261 wd_262 wd_4 wd_263
theorem gv_X_188 {c0 : Cond} : GoodIn (c0 :: kn_T) (wsV R_X 188 R_X y_X_heirOf ws_X_heirOf) := kn_V wd_172 wd_174 wp_6 wd_1 wd_175
theorem gv_X_185 {c0 : Cond} : GoodIn (c0 :: kn_T) (wsV R_X 185 R_X y_X_inheritOnce ws_X_inheritOnce) := kn_V wd_168 wd_170 wp_5 wd_1 wd_171
theorem gv_X_182 {c0 : Cond} : GoodIn (c0 :: kn_T) (wsV R_X 182 R_T y_T_isAheadOf ws_T_isAheadOf) := kn_V wd_176 wd_177 wd_178 wd_3 wd_179
theorem gv_X_160 {c0 : Cond} : GoodIn (c0 :: kn_T) (wsV R_X 160 R_X y_X_workOutEffective ws_X_workOutEffective) := kn_V wd_164 wd_166 wp_4 wd_1 wd_167
theorem gv_X_178 {c0 : Cond} : GoodIn (c0 :: kn_T) (wsV R_X 178 R_X y_X_foremost ws_X_foremost) := kn_V wd_160 wd_162 wp_3 wd_1 wd_163
theorem gv_X_70 {c0 : Cond} : GoodIn (c0 :: kn_T) (wsV R_X 70 R_X y_X_makeReady ws_X_makeReady) := kn_V wd_140 wd_142 wp_1 wd_1 wd_143
theorem gv_X_113 {c0 : Cond} : GoodIn (c0 :: kn_T) (wsV R_X 113 R_X y_X_block ws_X_block) := kn_V wd_196 wd_198 wp_10 wd_1 wd_199
theorem gv_X_195 {c0 : Cond} : GoodIn (c0 :: kn_T) (wsV R_X 195 R_X y_X_makeOwner ws_X_makeOwner) := kn_V wd_192 wd_194 wp_9 wd_1 wd_195
theorem gv_X_117 {c0 : Cond} : GoodIn (c0 :: kn_T) (wsV R_X 117 R_X y_X_firstWaiter ws_X_firstWaiter) := kn_V wd_208 wd_210 wp_12 wd_1 wd_211
theorem gv_X_97 {c0 : Cond} : GoodIn (c0 :: kn_T) (wsV R_X 97 R_X y_X_take ws_X_take) := kn_V wd_188 wd_190 wp_8 wd_1 wd_191
theorem gv_X_198 {c0 : Cond} : GoodIn (c0 :: kn_T) (wsV R_X 198 R_Q y_Q_insert ws_Q_insert) := kn_V wd_251 wd_252 wd_253 wd_4 wd_254
theorem gv_X_90 {c0 : Cond} : GoodIn (c0 :: kn_T) (wsV R_X 90 R_X y_X_startTurn ws_X_startTurn) := kn_V wd_180 wd_182 wp_7 wd_1 wd_183
theorem gs_X_77 {c0 : Cond} : GoodIn (c0 :: kn_T) (wsS R_X 77 y_X_isBelow ws_X_isBelow) := kn_S wd_149 wd_150 wd_1 wd_151
theorem gv_X_121 {c0 : Cond} : GoodIn (c0 :: kn_T) (wsV R_X 121 R_X y_X_endAwait ws_X_endAwait) := kn_V wd_227 wd_229 wp_14 wd_1 wd_230
theorem gv_X_205 {c0 : Cond} : GoodIn (c0 :: kn_T) (wsV R_X 205 R_X y_X_endWait ws_X_endWait) := kn_V wd_297 wd_299 wp_19 wd_1 wd_300
theorem gv_X_87 {c0 : Cond} : GoodIn (c0 :: kn_T) (wsV R_X 87 R_X y_X_runner ws_X_runner) := kn_V wd_156 wd_158 wp_2 wd_1 wd_159
theorem gv_X_202 {c0 : Cond} : GoodIn (c0 :: kn_T) (wsV R_X 202 R_X y_X_useTick ws_X_useTick) := kn_V wd_293 wd_295 wp_18 wd_1 wd_296
theorem gs_X_55 {c0 : Cond} : GoodIn (c0 :: kn_T) (wsS R_X 55 y_X_isPriority ws_X_isPriority) := kn_S wd_133 wd_134 wd_1 wd_135
theorem gv_X_59 {c0 : Cond} : GoodIn (c0 :: kn_T) (wsV R_X 59 R_X y_X_leastFree ws_X_leastFree) := kn_V wd_136 wd_138 wp_0 wd_1 wd_139
theorem gv_X_100 {c0 : Cond} : GoodIn (c0 :: kn_T) (wsV R_X 100 R_X y_X_give ws_X_give) := kn_V wd_204 wd_206 wp_11 wd_1 wd_207
theorem gs_X_103 {c0 : Cond} : GoodIn (c0 :: kn_T) (wsS R_X 103 y_X_isTimeout ws_X_isTimeout) := kn_S wd_216 wd_217 wd_1 wd_218
theorem gv_X_109 {c0 : Cond} : GoodIn (c0 :: kn_T) (wsV R_X 109 R_X y_X_deadlineAfter ws_X_deadlineAfter) := kn_V wd_219 wd_221 wp_13 wd_1 wd_222
theorem gv_X_127 {c0 : Cond} : GoodIn (c0 :: kn_T) (wsV R_X 127 R_Q y_Q_isFull ws_Q_isFull) := kn_V wd_243 wd_244 wd_245 wd_4 wd_246
theorem gv_X_139 {c0 : Cond} : GoodIn (c0 :: kn_T) (wsV R_X 139 R_X y_X_arrive ws_X_arrive) := kn_V wd_247 wd_249 wp_15 wd_1 wd_250
theorem gv_X_143 {c0 : Cond} : GoodIn (c0 :: kn_T) (wsV R_X 143 R_Q y_Q_isEmpty ws_Q_isEmpty) := kn_V wd_260 wd_261 wd_262 wd_4 wd_263
theorem gv_X_146 {c0 : Cond} : GoodIn (c0 :: kn_T) (wsV R_X 146 R_Q y_Q_removeFirst ws_Q_removeFirst) := kn_V wd_264 wd_265 wd_266 wd_4 wd_267
theorem gv_X_150 {c0 : Cond} : GoodIn (c0 :: kn_T) (wsV R_X 150 R_X y_X_ownsAny ws_X_ownsAny) := kn_V wd_281 wd_283 wp_16 wd_1 wd_284
theorem gv_X_157 {c0 : Cond} : GoodIn (c0 :: kn_T) (wsV R_X 157 R_X y_X_running ws_X_running) := kn_V wd_301 wd_302 wd_303 wd_1 wd_304
theorem gv_X_154 {c0 : Cond} : GoodIn (c0 :: kn_T) (wsV R_X 154 R_X y_X_tickOnce ws_X_tickOnce) := kn_V wd_289 wd_291 wp_17 wd_1 wd_292
theorem gv_X_175 {c0 : Cond} : GoodIn (c0 :: kn_T) (wsV R_X 175 R_X y_X_readyThreads ws_X_readyThreads) := kn_V wd_318 wd_320 wp_20 wd_1 wd_321
theorem gv_M_81 {c0 : Cond} : GoodIn (c0 :: kn_T) (wsV R_M 81 R_M y_M_newStamp ws_M_newStamp) := kn_V wd_418 wd_420 wp_23 wd_5 wd_421
theorem gv_M_85 {c0 : Cond} : GoodIn (c0 :: kn_T) (wsV R_M 85 R_M y_M_weigh ws_M_weigh) := kn_V wd_406 wd_408 wp_21 wd_5 wd_409
theorem gv_M_88 {c0 : Cond} : GoodIn (c0 :: kn_T) (wsV R_M 88 R_M y_M_firstWaiter ws_M_firstWaiter) := kn_V wd_451 wd_453 wp_27 wd_5 wd_454
theorem gv_M_92 {c0 : Cond} : GoodIn (c0 :: kn_T) (wsV R_M 92 R_M y_M_ready ws_M_ready) := kn_V wd_414 wd_416 wp_22 wd_5 wd_417
theorem gv_M_96 {c0 : Cond} : GoodIn (c0 :: kn_T) (wsV R_M 96 R_M y_M_block ws_M_block) := kn_V wd_439 wd_441 wp_25 wd_5 wd_442
theorem gv_M_100 {c0 : Cond} : GoodIn (c0 :: kn_T) (wsV R_M 100 R_M y_M_out ws_M_out) := kn_V wd_426 wd_428 wp_24 wd_5 wd_429
theorem gv_M_104 {c0 : Cond} : GoodIn (c0 :: kn_T) (wsV R_M 104 R_M y_M_running ws_M_running) := kn_V wd_434 wd_403 wd_404 wd_5 wd_405
theorem gv_M_107 {c0 : Cond} : GoodIn (c0 :: kn_T) (wsV R_M 107 R_M y_M_give ws_M_give) := kn_V wd_447 wd_449 wp_26 wd_5 wd_450
theorem gv_M_110 {c0 : Cond} : GoodIn (c0 :: kn_T) (wsV R_M 110 R_M y_M_retake ws_M_retake) := kn_V wd_463 wd_465 wp_28 wd_5 wd_466
theorem gv_M_114 {c0 : Cond} : GoodIn (c0 :: kn_T) (wsV R_M 114 R_M y_M_comeIn ws_M_comeIn) := kn_V wd_479 wd_481 wp_29 wd_5 wd_482
theorem gv_M_117 {c0 : Cond} : GoodIn (c0 :: kn_T) (wsV R_M 117 R_M y_M_deadlineComes ws_M_deadlineComes) := kn_V wd_503 wd_505 wp_30 wd_5 wd_506
