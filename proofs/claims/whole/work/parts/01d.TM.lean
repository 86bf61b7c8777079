abbrev b_TM_init : ByteArray := prog_10_method_1_code
abbrev y_TM_init : MethodName := ⟨R_TM, "<init>", "()V"⟩
abbrev w_TM_init : List Cond := (.code ⟨"TextTerms$Terms", "<init>", "()V"⟩ prog_10_method_1_code 1 (Option.none : Option Jvm.ClassFile.FieldType)) :: tt_T
theorem hv_TM_init : y_TM_init.cls = R_TM ∧ y_TM_init.cls ≠ "java/lang/invoke/MethodHandle" ∧ y_TM_init.cls ≠ "java/lang/invoke/VarHandle" ∧ (parseMethodDescriptor y_TM_init.desc).map (fun d => d.parameters.length) = some 0 := by decide +kernel
theorem d_TM_init_0 : decode b_TM_init 0 = .ok (.aload_n 0, 1) := by decide +kernel
theorem d_TM_init_1 : decode b_TM_init 1 = .ok (.invokespecial 3, 3) := by decide +kernel
theorem d_TM_init_4 : decode b_TM_init 4 = .ok (.aload_n 0, 1) := by decide +kernel
theorem d_TM_init_5 : decode b_TM_init 5 = .ok (.new 9, 3) := by decide +kernel
theorem d_TM_init_8 : decode b_TM_init 8 = .ok (.dup, 1) := by decide +kernel
theorem d_TM_init_9 : decode b_TM_init 9 = .ok (.invokespecial 11, 3) := by decide +kernel
theorem d_TM_init_12 : decode b_TM_init 12 = .ok (.putfield 12, 3) := by decide +kernel
theorem d_TM_init_15 : decode b_TM_init 15 = .ok (.aload_n 0, 1) := by decide +kernel
theorem d_TM_init_16 : decode b_TM_init 16 = .ok (.sipush 4096, 3) := by decide +kernel
theorem d_TM_init_19 : decode b_TM_init 19 = .ok (.newarray .int, 2) := by decide +kernel
theorem d_TM_init_21 : decode b_TM_init 21 = .ok (.putfield 18, 3) := by decide +kernel
theorem d_TM_init_24 : decode b_TM_init 24 = .ok (.aload_n 0, 1) := by decide +kernel
theorem d_TM_init_25 : decode b_TM_init 25 = .ok (.sipush 4096, 3) := by decide +kernel
theorem d_TM_init_28 : decode b_TM_init 28 = .ok (.newarray .int, 2) := by decide +kernel
theorem d_TM_init_30 : decode b_TM_init 30 = .ok (.putfield 22, 3) := by decide +kernel
theorem d_TM_init_33 : decode b_TM_init 33 = .ok (.aload_n 0, 1) := by decide +kernel
theorem d_TM_init_34 : decode b_TM_init 34 = .ok (.sipush 4096, 3) := by decide +kernel
theorem d_TM_init_37 : decode b_TM_init 37 = .ok (.newarray .int, 2) := by decide +kernel
theorem d_TM_init_39 : decode b_TM_init 39 = .ok (.putfield 25, 3) := by decide +kernel
theorem d_TM_init_42 : decode b_TM_init 42 = .ok (.aload_n 0, 1) := by decide +kernel
theorem d_TM_init_43 : decode b_TM_init 43 = .ok (.sipush 4096, 3) := by decide +kernel
theorem d_TM_init_46 : decode b_TM_init 46 = .ok (.newarray .int, 2) := by decide +kernel
theorem d_TM_init_48 : decode b_TM_init 48 = .ok (.putfield 28, 3) := by decide +kernel
theorem d_TM_init_51 : decode b_TM_init 51 = .ok (.aload_n 0, 1) := by decide +kernel
theorem d_TM_init_52 : decode b_TM_init 52 = .ok (.sipush 4096, 3) := by decide +kernel
theorem d_TM_init_55 : decode b_TM_init 55 = .ok (.newarray .int, 2) := by decide +kernel
theorem d_TM_init_57 : decode b_TM_init 57 = .ok (.putfield 31, 3) := by decide +kernel
theorem d_TM_init_60 : decode b_TM_init 60 = .ok (.aload_n 0, 1) := by decide +kernel
theorem d_TM_init_61 : decode b_TM_init 61 = .ok (.sipush 4096, 3) := by decide +kernel
theorem d_TM_init_64 : decode b_TM_init 64 = .ok (.newarray .int, 2) := by decide +kernel
theorem d_TM_init_66 : decode b_TM_init 66 = .ok (.putfield 34, 3) := by decide +kernel
theorem d_TM_init_69 : decode b_TM_init 69 = .ok (.aload_n 0, 1) := by decide +kernel
theorem d_TM_init_70 : decode b_TM_init 70 = .ok (.sipush 4096, 3) := by decide +kernel
theorem d_TM_init_73 : decode b_TM_init 73 = .ok (.newarray .int, 2) := by decide +kernel
theorem d_TM_init_75 : decode b_TM_init 75 = .ok (.putfield 37, 3) := by decide +kernel
theorem d_TM_init_78 : decode b_TM_init 78 = .ok (.aload_n 0, 1) := by decide +kernel
theorem d_TM_init_79 : decode b_TM_init 79 = .ok (.sipush 4096, 3) := by decide +kernel
theorem d_TM_init_82 : decode b_TM_init 82 = .ok (.newarray .int, 2) := by decide +kernel
theorem d_TM_init_84 : decode b_TM_init 84 = .ok (.putfield 40, 3) := by decide +kernel
theorem d_TM_init_87 : decode b_TM_init 87 = .ok (.aload_n 0, 1) := by decide +kernel
theorem d_TM_init_88 : decode b_TM_init 88 = .ok (.iconst 0, 1) := by decide +kernel
theorem d_TM_init_89 : decode b_TM_init 89 = .ok (.putfield 43, 3) := by decide +kernel
theorem d_TM_init_92 : decode b_TM_init 92 = .ok (.return_, 1) := by decide +kernel
abbrev b_TM_beginWith : ByteArray := prog_10_method_2_code
abbrev y_TM_beginWith : MethodName := ⟨R_TM, "beginWith", "(LTextTerms$Bytes;)V"⟩
abbrev w_TM_beginWith : List Cond := (.code ⟨"TextTerms$Terms", "beginWith", "(LTextTerms$Bytes;)V"⟩ prog_10_method_2_code 2 (Option.none : Option Jvm.ClassFile.FieldType)) :: tt_T
theorem hv_TM_beginWith : y_TM_beginWith.cls = R_TM ∧ y_TM_beginWith.cls ≠ "java/lang/invoke/MethodHandle" ∧ y_TM_beginWith.cls ≠ "java/lang/invoke/VarHandle" ∧ (parseMethodDescriptor y_TM_beginWith.desc).map (fun d => d.parameters.length) = some 1 := by decide +kernel
theorem d_TM_beginWith_0 : decode b_TM_beginWith 0 = .ok (.aload_n 0, 1) := by decide +kernel
theorem d_TM_beginWith_1 : decode b_TM_beginWith 1 = .ok (.getfield 12, 3) := by decide +kernel
theorem d_TM_beginWith_4 : decode b_TM_beginWith 4 = .ok (.aload_n 1, 1) := by decide +kernel
theorem d_TM_beginWith_5 : decode b_TM_beginWith 5 = .ok (.invokevirtual 47, 3) := by decide +kernel
theorem d_TM_beginWith_8 : decode b_TM_beginWith 8 = .ok (.aload_n 0, 1) := by decide +kernel
theorem d_TM_beginWith_9 : decode b_TM_beginWith 9 = .ok (.iconst 0, 1) := by decide +kernel
theorem d_TM_beginWith_10 : decode b_TM_beginWith 10 = .ok (.putfield 43, 3) := by decide +kernel
theorem d_TM_beginWith_13 : decode b_TM_beginWith 13 = .ok (.return_, 1) := by decide +kernel
abbrev b_TM_forgetAll : ByteArray := prog_10_method_3_code
abbrev y_TM_forgetAll : MethodName := ⟨R_TM, "forgetAll", "()V"⟩
abbrev w_TM_forgetAll : List Cond := (.code ⟨"TextTerms$Terms", "forgetAll", "()V"⟩ prog_10_method_3_code 1 (Option.none : Option Jvm.ClassFile.FieldType)) :: tt_T
theorem hv_TM_forgetAll : y_TM_forgetAll.cls = R_TM ∧ y_TM_forgetAll.cls ≠ "java/lang/invoke/MethodHandle" ∧ y_TM_forgetAll.cls ≠ "java/lang/invoke/VarHandle" ∧ (parseMethodDescriptor y_TM_forgetAll.desc).map (fun d => d.parameters.length) = some 0 := by decide +kernel
theorem d_TM_forgetAll_0 : decode b_TM_forgetAll 0 = .ok (.aload_n 0, 1) := by decide +kernel
theorem d_TM_forgetAll_1 : decode b_TM_forgetAll 1 = .ok (.iconst 0, 1) := by decide +kernel
theorem d_TM_forgetAll_2 : decode b_TM_forgetAll 2 = .ok (.putfield 43, 3) := by decide +kernel
theorem d_TM_forgetAll_5 : decode b_TM_forgetAll 5 = .ok (.return_, 1) := by decide +kernel
abbrev b_TM_has : ByteArray := prog_10_method_4_code
abbrev y_TM_has : MethodName := ⟨R_TM, "has", "(I)Z"⟩
abbrev w_TM_has : List Cond := (.code ⟨"TextTerms$Terms", "has", "(I)Z"⟩ prog_10_method_4_code 2 (Option.some Jvm.ClassFile.FieldType.boolean)) :: tt_T
theorem hv_TM_has : y_TM_has.cls = R_TM ∧ y_TM_has.cls ≠ "java/lang/invoke/MethodHandle" ∧ y_TM_has.cls ≠ "java/lang/invoke/VarHandle" ∧ (parseMethodDescriptor y_TM_has.desc).map (fun d => d.parameters.length) = some 1 := by decide +kernel
theorem d_TM_has_0 : decode b_TM_has 0 = .ok (.iload_n 1, 1) := by decide +kernel
theorem d_TM_has_1 : decode b_TM_has 1 = .ok (.ifCond .lt 15, 3) := by decide +kernel
theorem d_TM_has_4 : decode b_TM_has 4 = .ok (.iload_n 1, 1) := by decide +kernel
theorem d_TM_has_5 : decode b_TM_has 5 = .ok (.aload_n 0, 1) := by decide +kernel
theorem d_TM_has_6 : decode b_TM_has 6 = .ok (.getfield 43, 3) := by decide +kernel
theorem d_TM_has_9 : decode b_TM_has 9 = .ok (.if_icmp .ge 7, 3) := by decide +kernel
theorem d_TM_has_12 : decode b_TM_has 12 = .ok (.iconst 1, 1) := by decide +kernel
theorem d_TM_has_13 : decode b_TM_has 13 = .ok (.goto 4, 3) := by decide +kernel
theorem d_TM_has_16 : decode b_TM_has 16 = .ok (.iconst 0, 1) := by decide +kernel
theorem d_TM_has_17 : decode b_TM_has 17 = .ok (.ireturn, 1) := by decide +kernel
abbrev b_TM_in : ByteArray := prog_10_method_5_code
abbrev y_TM_in : MethodName := ⟨R_TM, "in", "([II)I"⟩
abbrev w_TM_in : List Cond := (.code ⟨"TextTerms$Terms", "in", "([II)I"⟩ prog_10_method_5_code 3 (Option.some Jvm.ClassFile.FieldType.int)) :: tt_T
theorem hv_TM_in : y_TM_in.cls = R_TM ∧ y_TM_in.cls ≠ "java/lang/invoke/MethodHandle" ∧ y_TM_in.cls ≠ "java/lang/invoke/VarHandle" ∧ (parseMethodDescriptor y_TM_in.desc).map (fun d => d.parameters.length) = some 2 := by decide +kernel
theorem d_TM_in_0 : decode b_TM_in 0 = .ok (.iload_n 2, 1) := by decide +kernel
theorem d_TM_in_1 : decode b_TM_in 1 = .ok (.ifCond .lt 23, 3) := by decide +kernel
theorem d_TM_in_4 : decode b_TM_in 4 = .ok (.iload_n 2, 1) := by decide +kernel
theorem d_TM_in_5 : decode b_TM_in 5 = .ok (.aload_n 0, 1) := by decide +kernel
theorem d_TM_in_6 : decode b_TM_in 6 = .ok (.getfield 43, 3) := by decide +kernel
theorem d_TM_in_9 : decode b_TM_in 9 = .ok (.if_icmp .ge 15, 3) := by decide +kernel
theorem d_TM_in_12 : decode b_TM_in 12 = .ok (.iload_n 2, 1) := by decide +kernel
theorem d_TM_in_13 : decode b_TM_in 13 = .ok (.aload_n 1, 1) := by decide +kernel
theorem d_TM_in_14 : decode b_TM_in 14 = .ok (.arraylength, 1) := by decide +kernel
theorem d_TM_in_15 : decode b_TM_in 15 = .ok (.if_icmp .ge 9, 3) := by decide +kernel
theorem d_TM_in_18 : decode b_TM_in 18 = .ok (.aload_n 1, 1) := by decide +kernel
theorem d_TM_in_19 : decode b_TM_in 19 = .ok (.iload_n 2, 1) := by decide +kernel
theorem d_TM_in_20 : decode b_TM_in 20 = .ok (.iaload, 1) := by decide +kernel
theorem d_TM_in_21 : decode b_TM_in 21 = .ok (.goto 4, 3) := by decide +kernel
theorem d_TM_in_24 : decode b_TM_in 24 = .ok (.iconst (-1), 1) := by decide +kernel
theorem d_TM_in_25 : decode b_TM_in 25 = .ok (.ireturn, 1) := by decide +kernel
abbrev b_TM_add : ByteArray := prog_10_method_6_code
abbrev y_TM_add : MethodName := ⟨R_TM, "add", "(IIII)I"⟩
abbrev w_TM_add : List Cond := (.code ⟨"TextTerms$Terms", "add", "(IIII)I"⟩ prog_10_method_6_code 6 (Option.some Jvm.ClassFile.FieldType.int)) :: tt_T
theorem hv_TM_add : y_TM_add.cls = R_TM ∧ y_TM_add.cls ≠ "java/lang/invoke/MethodHandle" ∧ y_TM_add.cls ≠ "java/lang/invoke/VarHandle" ∧ (parseMethodDescriptor y_TM_add.desc).map (fun d => d.parameters.length) = some 4 := by decide +kernel
theorem d_TM_add_0 : decode b_TM_add 0 = .ok (.aload_n 0, 1) := by decide +kernel
theorem d_TM_add_1 : decode b_TM_add 1 = .ok (.getfield 43, 3) := by decide +kernel
theorem d_TM_add_4 : decode b_TM_add 4 = .ok (.sipush 4096, 3) := by decide +kernel
theorem d_TM_add_7 : decode b_TM_add 7 = .ok (.if_icmp .lt 5, 3) := by decide +kernel
theorem d_TM_add_10 : decode b_TM_add 10 = .ok (.iconst (-1), 1) := by decide +kernel
theorem d_TM_add_11 : decode b_TM_add 11 = .ok (.ireturn, 1) := by decide +kernel
theorem d_TM_add_12 : decode b_TM_add 12 = .ok (.aload_n 0, 1) := by decide +kernel
theorem d_TM_add_13 : decode b_TM_add 13 = .ok (.getfield 43, 3) := by decide +kernel
theorem d_TM_add_16 : decode b_TM_add 16 = .ok (.istore 5, 2) := by decide +kernel
theorem d_TM_add_18 : decode b_TM_add 18 = .ok (.aload_n 0, 1) := by decide +kernel
theorem d_TM_add_19 : decode b_TM_add 19 = .ok (.dup, 1) := by decide +kernel
theorem d_TM_add_20 : decode b_TM_add 20 = .ok (.getfield 43, 3) := by decide +kernel
theorem d_TM_add_23 : decode b_TM_add 23 = .ok (.iconst 1, 1) := by decide +kernel
theorem d_TM_add_24 : decode b_TM_add 24 = .ok (.iadd, 1) := by decide +kernel
theorem d_TM_add_25 : decode b_TM_add 25 = .ok (.putfield 43, 3) := by decide +kernel
theorem d_TM_add_28 : decode b_TM_add 28 = .ok (.aload_n 0, 1) := by decide +kernel
theorem d_TM_add_29 : decode b_TM_add 29 = .ok (.getfield 18, 3) := by decide +kernel
theorem d_TM_add_32 : decode b_TM_add 32 = .ok (.iload 5, 2) := by decide +kernel
theorem d_TM_add_34 : decode b_TM_add 34 = .ok (.iload_n 1, 1) := by decide +kernel
theorem d_TM_add_35 : decode b_TM_add 35 = .ok (.iastore, 1) := by decide +kernel
theorem d_TM_add_36 : decode b_TM_add 36 = .ok (.aload_n 0, 1) := by decide +kernel
theorem d_TM_add_37 : decode b_TM_add 37 = .ok (.getfield 22, 3) := by decide +kernel
theorem d_TM_add_40 : decode b_TM_add 40 = .ok (.iload 5, 2) := by decide +kernel
theorem d_TM_add_42 : decode b_TM_add 42 = .ok (.iload_n 2, 1) := by decide +kernel
theorem d_TM_add_43 : decode b_TM_add 43 = .ok (.iastore, 1) := by decide +kernel
theorem d_TM_add_44 : decode b_TM_add 44 = .ok (.aload_n 0, 1) := by decide +kernel
theorem d_TM_add_45 : decode b_TM_add 45 = .ok (.getfield 25, 3) := by decide +kernel
theorem d_TM_add_48 : decode b_TM_add 48 = .ok (.iload 5, 2) := by decide +kernel
theorem d_TM_add_50 : decode b_TM_add 50 = .ok (.iconst 0, 1) := by decide +kernel
theorem d_TM_add_51 : decode b_TM_add 51 = .ok (.iastore, 1) := by decide +kernel
theorem d_TM_add_52 : decode b_TM_add 52 = .ok (.aload_n 0, 1) := by decide +kernel
theorem d_TM_add_53 : decode b_TM_add 53 = .ok (.getfield 28, 3) := by decide +kernel
theorem d_TM_add_56 : decode b_TM_add 56 = .ok (.iload 5, 2) := by decide +kernel
theorem d_TM_add_58 : decode b_TM_add 58 = .ok (.iconst 1, 1) := by decide +kernel
theorem d_TM_add_59 : decode b_TM_add 59 = .ok (.iastore, 1) := by decide +kernel
theorem d_TM_add_60 : decode b_TM_add 60 = .ok (.aload_n 0, 1) := by decide +kernel
theorem d_TM_add_61 : decode b_TM_add 61 = .ok (.getfield 31, 3) := by decide +kernel
theorem d_TM_add_64 : decode b_TM_add 64 = .ok (.iload 5, 2) := by decide +kernel
theorem d_TM_add_66 : decode b_TM_add 66 = .ok (.iload_n 3, 1) := by decide +kernel
theorem d_TM_add_67 : decode b_TM_add 67 = .ok (.iastore, 1) := by decide +kernel
theorem d_TM_add_68 : decode b_TM_add 68 = .ok (.aload_n 0, 1) := by decide +kernel
theorem d_TM_add_69 : decode b_TM_add 69 = .ok (.getfield 34, 3) := by decide +kernel
theorem d_TM_add_72 : decode b_TM_add 72 = .ok (.iload 5, 2) := by decide +kernel
theorem d_TM_add_74 : decode b_TM_add 74 = .ok (.iload 4, 2) := by decide +kernel
theorem d_TM_add_76 : decode b_TM_add 76 = .ok (.iastore, 1) := by decide +kernel
theorem d_TM_add_77 : decode b_TM_add 77 = .ok (.aload_n 0, 1) := by decide +kernel
theorem d_TM_add_78 : decode b_TM_add 78 = .ok (.getfield 37, 3) := by decide +kernel
theorem d_TM_add_81 : decode b_TM_add 81 = .ok (.iload 5, 2) := by decide +kernel
theorem d_TM_add_83 : decode b_TM_add 83 = .ok (.iconst 0, 1) := by decide +kernel
theorem d_TM_add_84 : decode b_TM_add 84 = .ok (.iastore, 1) := by decide +kernel
theorem d_TM_add_85 : decode b_TM_add 85 = .ok (.aload_n 0, 1) := by decide +kernel
theorem d_TM_add_86 : decode b_TM_add 86 = .ok (.getfield 40, 3) := by decide +kernel
theorem d_TM_add_89 : decode b_TM_add 89 = .ok (.iload 5, 2) := by decide +kernel
theorem d_TM_add_91 : decode b_TM_add 91 = .ok (.iconst 0, 1) := by decide +kernel
theorem d_TM_add_92 : decode b_TM_add 92 = .ok (.iastore, 1) := by decide +kernel
theorem d_TM_add_93 : decode b_TM_add 93 = .ok (.iload_n 2, 1) := by decide +kernel
theorem d_TM_add_94 : decode b_TM_add 94 = .ok (.ifCond .lt 19, 3) := by decide +kernel
theorem d_TM_add_97 : decode b_TM_add 97 = .ok (.iload_n 2, 1) := by decide +kernel
theorem d_TM_add_98 : decode b_TM_add 98 = .ok (.iload 5, 2) := by decide +kernel
theorem d_TM_add_100 : decode b_TM_add 100 = .ok (.if_icmp .ge 13, 3) := by decide +kernel
theorem d_TM_add_103 : decode b_TM_add 103 = .ok (.aload_n 0, 1) := by decide +kernel
theorem d_TM_add_104 : decode b_TM_add 104 = .ok (.getfield 25, 3) := by decide +kernel
theorem d_TM_add_107 : decode b_TM_add 107 = .ok (.iload_n 2, 1) := by decide +kernel
theorem d_TM_add_108 : decode b_TM_add 108 = .ok (.dup2, 1) := by decide +kernel
theorem d_TM_add_109 : decode b_TM_add 109 = .ok (.iaload, 1) := by decide +kernel
theorem d_TM_add_110 : decode b_TM_add 110 = .ok (.iconst 1, 1) := by decide +kernel
theorem d_TM_add_111 : decode b_TM_add 111 = .ok (.iadd, 1) := by decide +kernel
theorem d_TM_add_112 : decode b_TM_add 112 = .ok (.iastore, 1) := by decide +kernel
theorem d_TM_add_113 : decode b_TM_add 113 = .ok (.iload 5, 2) := by decide +kernel
theorem d_TM_add_115 : decode b_TM_add 115 = .ok (.ireturn, 1) := by decide +kernel
abbrev b_TM_endAt : ByteArray := prog_10_method_7_code
abbrev y_TM_endAt : MethodName := ⟨R_TM, "endAt", "(II)V"⟩
abbrev w_TM_endAt : List Cond := (.code ⟨"TextTerms$Terms", "endAt", "(II)V"⟩ prog_10_method_7_code 3 (Option.none : Option Jvm.ClassFile.FieldType)) :: tt_T
theorem hv_TM_endAt : y_TM_endAt.cls = R_TM ∧ y_TM_endAt.cls ≠ "java/lang/invoke/MethodHandle" ∧ y_TM_endAt.cls ≠ "java/lang/invoke/VarHandle" ∧ (parseMethodDescriptor y_TM_endAt.desc).map (fun d => d.parameters.length) = some 2 := by decide +kernel
theorem d_TM_endAt_0 : decode b_TM_endAt 0 = .ok (.aload_n 0, 1) := by decide +kernel
theorem d_TM_endAt_1 : decode b_TM_endAt 1 = .ok (.iload_n 1, 1) := by decide +kernel
theorem d_TM_endAt_2 : decode b_TM_endAt 2 = .ok (.invokevirtual 51, 3) := by decide +kernel
theorem d_TM_endAt_5 : decode b_TM_endAt 5 = .ok (.ifCond .eq 10, 3) := by decide +kernel
theorem d_TM_endAt_8 : decode b_TM_endAt 8 = .ok (.aload_n 0, 1) := by decide +kernel
theorem d_TM_endAt_9 : decode b_TM_endAt 9 = .ok (.getfield 34, 3) := by decide +kernel
theorem d_TM_endAt_12 : decode b_TM_endAt 12 = .ok (.iload_n 1, 1) := by decide +kernel
theorem d_TM_endAt_13 : decode b_TM_endAt 13 = .ok (.iload_n 2, 1) := by decide +kernel
theorem d_TM_endAt_14 : decode b_TM_endAt 14 = .ok (.iastore, 1) := by decide +kernel
theorem d_TM_endAt_15 : decode b_TM_endAt 15 = .ok (.return_, 1) := by decide +kernel
abbrev b_TM_setMark : ByteArray := prog_10_method_8_code
abbrev y_TM_setMark : MethodName := ⟨R_TM, "setMark", "(III)V"⟩
abbrev w_TM_setMark : List Cond := (.code ⟨"TextTerms$Terms", "setMark", "(III)V"⟩ prog_10_method_8_code 4 (Option.none : Option Jvm.ClassFile.FieldType)) :: tt_T
theorem hv_TM_setMark : y_TM_setMark.cls = R_TM ∧ y_TM_setMark.cls ≠ "java/lang/invoke/MethodHandle" ∧ y_TM_setMark.cls ≠ "java/lang/invoke/VarHandle" ∧ (parseMethodDescriptor y_TM_setMark.desc).map (fun d => d.parameters.length) = some 3 := by decide +kernel
theorem d_TM_setMark_0 : decode b_TM_setMark 0 = .ok (.aload_n 0, 1) := by decide +kernel
theorem d_TM_setMark_1 : decode b_TM_setMark 1 = .ok (.iload_n 1, 1) := by decide +kernel
theorem d_TM_setMark_2 : decode b_TM_setMark 2 = .ok (.invokevirtual 51, 3) := by decide +kernel
theorem d_TM_setMark_5 : decode b_TM_setMark 5 = .ok (.ifCond .eq 17, 3) := by decide +kernel
theorem d_TM_setMark_8 : decode b_TM_setMark 8 = .ok (.aload_n 0, 1) := by decide +kernel
theorem d_TM_setMark_9 : decode b_TM_setMark 9 = .ok (.getfield 37, 3) := by decide +kernel
theorem d_TM_setMark_12 : decode b_TM_setMark 12 = .ok (.iload_n 1, 1) := by decide +kernel
theorem d_TM_setMark_13 : decode b_TM_setMark 13 = .ok (.iload_n 2, 1) := by decide +kernel
theorem d_TM_setMark_14 : decode b_TM_setMark 14 = .ok (.iastore, 1) := by decide +kernel
theorem d_TM_setMark_15 : decode b_TM_setMark 15 = .ok (.aload_n 0, 1) := by decide +kernel
theorem d_TM_setMark_16 : decode b_TM_setMark 16 = .ok (.getfield 40, 3) := by decide +kernel
theorem d_TM_setMark_19 : decode b_TM_setMark 19 = .ok (.iload_n 1, 1) := by decide +kernel
theorem d_TM_setMark_20 : decode b_TM_setMark 20 = .ok (.iload_n 3, 1) := by decide +kernel
theorem d_TM_setMark_21 : decode b_TM_setMark 21 = .ok (.iastore, 1) := by decide +kernel
theorem d_TM_setMark_22 : decode b_TM_setMark 22 = .ok (.return_, 1) := by decide +kernel
abbrev b_TM_addUpSizes : ByteArray := prog_10_method_9_code
abbrev y_TM_addUpSizes : MethodName := ⟨R_TM, "addUpSizes", "()V"⟩
abbrev w_TM_addUpSizes : List Cond := (.code ⟨"TextTerms$Terms", "addUpSizes", "()V"⟩ prog_10_method_9_code 3 (Option.none : Option Jvm.ClassFile.FieldType)) :: tt_T
theorem hv_TM_addUpSizes : y_TM_addUpSizes.cls = R_TM ∧ y_TM_addUpSizes.cls ≠ "java/lang/invoke/MethodHandle" ∧ y_TM_addUpSizes.cls ≠ "java/lang/invoke/VarHandle" ∧ (parseMethodDescriptor y_TM_addUpSizes.desc).map (fun d => d.parameters.length) = some 0 := by decide +kernel
theorem d_TM_addUpSizes_0 : decode b_TM_addUpSizes 0 = .ok (.aload_n 0, 1) := by decide +kernel
theorem d_TM_addUpSizes_1 : decode b_TM_addUpSizes 1 = .ok (.getfield 43, 3) := by decide +kernel
theorem d_TM_addUpSizes_4 : decode b_TM_addUpSizes 4 = .ok (.iconst 1, 1) := by decide +kernel
theorem d_TM_addUpSizes_5 : decode b_TM_addUpSizes 5 = .ok (.isub, 1) := by decide +kernel
theorem d_TM_addUpSizes_6 : decode b_TM_addUpSizes 6 = .ok (.istore_n 1, 1) := by decide +kernel
theorem d_TM_addUpSizes_7 : decode b_TM_addUpSizes 7 = .ok (.iload_n 1, 1) := by decide +kernel
theorem d_TM_addUpSizes_8 : decode b_TM_addUpSizes 8 = .ok (.ifCond .le 39, 3) := by decide +kernel
theorem d_TM_addUpSizes_11 : decode b_TM_addUpSizes 11 = .ok (.aload_n 0, 1) := by decide +kernel
theorem d_TM_addUpSizes_12 : decode b_TM_addUpSizes 12 = .ok (.getfield 22, 3) := by decide +kernel
theorem d_TM_addUpSizes_15 : decode b_TM_addUpSizes 15 = .ok (.iload_n 1, 1) := by decide +kernel
theorem d_TM_addUpSizes_16 : decode b_TM_addUpSizes 16 = .ok (.iaload, 1) := by decide +kernel
theorem d_TM_addUpSizes_17 : decode b_TM_addUpSizes 17 = .ok (.istore_n 2, 1) := by decide +kernel
theorem d_TM_addUpSizes_18 : decode b_TM_addUpSizes 18 = .ok (.aload_n 0, 1) := by decide +kernel
theorem d_TM_addUpSizes_19 : decode b_TM_addUpSizes 19 = .ok (.iload_n 2, 1) := by decide +kernel
theorem d_TM_addUpSizes_20 : decode b_TM_addUpSizes 20 = .ok (.invokevirtual 51, 3) := by decide +kernel
theorem d_TM_addUpSizes_23 : decode b_TM_addUpSizes 23 = .ok (.ifCond .eq 18, 3) := by decide +kernel
theorem d_TM_addUpSizes_26 : decode b_TM_addUpSizes 26 = .ok (.aload_n 0, 1) := by decide +kernel
theorem d_TM_addUpSizes_27 : decode b_TM_addUpSizes 27 = .ok (.getfield 28, 3) := by decide +kernel
theorem d_TM_addUpSizes_30 : decode b_TM_addUpSizes 30 = .ok (.iload_n 2, 1) := by decide +kernel
theorem d_TM_addUpSizes_31 : decode b_TM_addUpSizes 31 = .ok (.dup2, 1) := by decide +kernel
theorem d_TM_addUpSizes_32 : decode b_TM_addUpSizes 32 = .ok (.iaload, 1) := by decide +kernel
theorem d_TM_addUpSizes_33 : decode b_TM_addUpSizes 33 = .ok (.aload_n 0, 1) := by decide +kernel
theorem d_TM_addUpSizes_34 : decode b_TM_addUpSizes 34 = .ok (.getfield 28, 3) := by decide +kernel
theorem d_TM_addUpSizes_37 : decode b_TM_addUpSizes 37 = .ok (.iload_n 1, 1) := by decide +kernel
theorem d_TM_addUpSizes_38 : decode b_TM_addUpSizes 38 = .ok (.iaload, 1) := by decide +kernel
theorem d_TM_addUpSizes_39 : decode b_TM_addUpSizes 39 = .ok (.iadd, 1) := by decide +kernel
theorem d_TM_addUpSizes_40 : decode b_TM_addUpSizes 40 = .ok (.iastore, 1) := by decide +kernel
theorem d_TM_addUpSizes_41 : decode b_TM_addUpSizes 41 = .ok (.iinc 1 (-1), 3) := by decide +kernel
theorem d_TM_addUpSizes_44 : decode b_TM_addUpSizes 44 = .ok (.goto (-37), 3) := by decide +kernel
theorem d_TM_addUpSizes_47 : decode b_TM_addUpSizes 47 = .ok (.return_, 1) := by decide +kernel
abbrev b_TM_child : ByteArray := prog_10_method_10_code
abbrev y_TM_child : MethodName := ⟨R_TM, "child", "(II)I"⟩
abbrev w_TM_child : List Cond := (.code ⟨"TextTerms$Terms", "child", "(II)I"⟩ prog_10_method_10_code 5 (Option.some Jvm.ClassFile.FieldType.int)) :: tt_T
theorem hv_TM_child : y_TM_child.cls = R_TM ∧ y_TM_child.cls ≠ "java/lang/invoke/MethodHandle" ∧ y_TM_child.cls ≠ "java/lang/invoke/VarHandle" ∧ (parseMethodDescriptor y_TM_child.desc).map (fun d => d.parameters.length) = some 2 := by decide +kernel
theorem d_TM_child_0 : decode b_TM_child 0 = .ok (.iload_n 2, 1) := by decide +kernel
theorem d_TM_child_1 : decode b_TM_child 1 = .ok (.ifCond .lt 16, 3) := by decide +kernel
theorem d_TM_child_4 : decode b_TM_child 4 = .ok (.iload_n 2, 1) := by decide +kernel
theorem d_TM_child_5 : decode b_TM_child 5 = .ok (.aload_n 0, 1) := by decide +kernel
theorem d_TM_child_6 : decode b_TM_child 6 = .ok (.aload_n 0, 1) := by decide +kernel
theorem d_TM_child_7 : decode b_TM_child 7 = .ok (.getfield 25, 3) := by decide +kernel
theorem d_TM_child_10 : decode b_TM_child 10 = .ok (.iload_n 1, 1) := by decide +kernel
theorem d_TM_child_11 : decode b_TM_child 11 = .ok (.invokevirtual 55, 3) := by decide +kernel
theorem d_TM_child_14 : decode b_TM_child 14 = .ok (.if_icmp .lt 5, 3) := by decide +kernel
theorem d_TM_child_17 : decode b_TM_child 17 = .ok (.iconst (-1), 1) := by decide +kernel
theorem d_TM_child_18 : decode b_TM_child 18 = .ok (.ireturn, 1) := by decide +kernel
theorem d_TM_child_19 : decode b_TM_child 19 = .ok (.iload_n 1, 1) := by decide +kernel
theorem d_TM_child_20 : decode b_TM_child 20 = .ok (.iconst 1, 1) := by decide +kernel
theorem d_TM_child_21 : decode b_TM_child 21 = .ok (.iadd, 1) := by decide +kernel
theorem d_TM_child_22 : decode b_TM_child 22 = .ok (.istore_n 3, 1) := by decide +kernel
theorem d_TM_child_23 : decode b_TM_child 23 = .ok (.iconst 0, 1) := by decide +kernel
theorem d_TM_child_24 : decode b_TM_child 24 = .ok (.istore 4, 2) := by decide +kernel
theorem d_TM_child_26 : decode b_TM_child 26 = .ok (.iload 4, 2) := by decide +kernel
theorem d_TM_child_28 : decode b_TM_child 28 = .ok (.iload_n 2, 1) := by decide +kernel
theorem d_TM_child_29 : decode b_TM_child 29 = .ok (.if_icmp .ge 21, 3) := by decide +kernel
theorem d_TM_child_32 : decode b_TM_child 32 = .ok (.iload_n 3, 1) := by decide +kernel
theorem d_TM_child_33 : decode b_TM_child 33 = .ok (.aload_n 0, 1) := by decide +kernel
theorem d_TM_child_34 : decode b_TM_child 34 = .ok (.aload_n 0, 1) := by decide +kernel
theorem d_TM_child_35 : decode b_TM_child 35 = .ok (.getfield 28, 3) := by decide +kernel
theorem d_TM_child_38 : decode b_TM_child 38 = .ok (.iload_n 3, 1) := by decide +kernel
theorem d_TM_child_39 : decode b_TM_child 39 = .ok (.invokevirtual 55, 3) := by decide +kernel
theorem d_TM_child_42 : decode b_TM_child 42 = .ok (.iadd, 1) := by decide +kernel
theorem d_TM_child_43 : decode b_TM_child 43 = .ok (.istore_n 3, 1) := by decide +kernel
theorem d_TM_child_44 : decode b_TM_child 44 = .ok (.iinc 4 1, 3) := by decide +kernel
theorem d_TM_child_47 : decode b_TM_child 47 = .ok (.goto (-21), 3) := by decide +kernel
theorem d_TM_child_50 : decode b_TM_child 50 = .ok (.aload_n 0, 1) := by decide +kernel
theorem d_TM_child_51 : decode b_TM_child 51 = .ok (.iload_n 3, 1) := by decide +kernel
theorem d_TM_child_52 : decode b_TM_child 52 = .ok (.invokevirtual 51, 3) := by decide +kernel
theorem d_TM_child_55 : decode b_TM_child 55 = .ok (.ifCond .eq 7, 3) := by decide +kernel
theorem d_TM_child_58 : decode b_TM_child 58 = .ok (.iload_n 3, 1) := by decide +kernel
theorem d_TM_child_59 : decode b_TM_child 59 = .ok (.goto 4, 3) := by decide +kernel
theorem d_TM_child_62 : decode b_TM_child 62 = .ok (.iconst (-1), 1) := by decide +kernel
theorem d_TM_child_63 : decode b_TM_child 63 = .ok (.ireturn, 1) := by decide +kernel
