abbrev b_SC_init : ByteArray := prog_9_method_1_code
abbrev y_SC_init : MethodName := ⟨R_SC, "<init>", "()V"⟩
abbrev w_SC_init : List Cond := (.code ⟨"TextTerms$Scanner", "<init>", "()V"⟩ prog_9_method_1_code 1 (Option.none : Option Jvm.ClassFile.FieldType)) :: tt_T
theorem hv_SC_init : y_SC_init.cls = R_SC ∧ y_SC_init.cls ≠ "java/lang/invoke/MethodHandle" ∧ y_SC_init.cls ≠ "java/lang/invoke/VarHandle" ∧ (parseMethodDescriptor y_SC_init.desc).map (fun d => d.parameters.length) = some 0 := by decide +kernel
theorem d_SC_init_0 : decode b_SC_init 0 = .ok (.aload_n 0, 1) := by decide +kernel
theorem d_SC_init_1 : decode b_SC_init 1 = .ok (.invokespecial 3, 3) := by decide +kernel
theorem d_SC_init_4 : decode b_SC_init 4 = .ok (.return_, 1) := by decide +kernel
abbrev b_SC_restart : ByteArray := prog_9_method_2_code
abbrev y_SC_restart : MethodName := ⟨R_SC, "restart", "()V"⟩
abbrev w_SC_restart : List Cond := (.code ⟨"TextTerms$Scanner", "restart", "()V"⟩ prog_9_method_2_code 1 (Option.none : Option Jvm.ClassFile.FieldType)) :: tt_T
theorem hv_SC_restart : y_SC_restart.cls = R_SC ∧ y_SC_restart.cls ≠ "java/lang/invoke/MethodHandle" ∧ y_SC_restart.cls ≠ "java/lang/invoke/VarHandle" ∧ (parseMethodDescriptor y_SC_restart.desc).map (fun d => d.parameters.length) = some 0 := by decide +kernel
theorem d_SC_restart_0 : decode b_SC_restart 0 = .ok (.aload_n 0, 1) := by decide +kernel
theorem d_SC_restart_1 : decode b_SC_restart 1 = .ok (.iconst 0, 1) := by decide +kernel
theorem d_SC_restart_2 : decode b_SC_restart 2 = .ok (.putfield 9, 3) := by decide +kernel
theorem d_SC_restart_5 : decode b_SC_restart 5 = .ok (.aload_n 0, 1) := by decide +kernel
theorem d_SC_restart_6 : decode b_SC_restart 6 = .ok (.iconst 0, 1) := by decide +kernel
theorem d_SC_restart_7 : decode b_SC_restart 7 = .ok (.putfield 15, 3) := by decide +kernel
theorem d_SC_restart_10 : decode b_SC_restart 10 = .ok (.return_, 1) := by decide +kernel
abbrev b_SC_step : ByteArray := prog_9_method_3_code
abbrev y_SC_step : MethodName := ⟨R_SC, "step", "(LTextTerms$Bytes;)V"⟩
abbrev w_SC_step : List Cond := (.code ⟨"TextTerms$Scanner", "step", "(LTextTerms$Bytes;)V"⟩ prog_9_method_3_code 2 (Option.none : Option Jvm.ClassFile.FieldType)) :: tt_T
theorem hv_SC_step : y_SC_step.cls = R_SC ∧ y_SC_step.cls ≠ "java/lang/invoke/MethodHandle" ∧ y_SC_step.cls ≠ "java/lang/invoke/VarHandle" ∧ (parseMethodDescriptor y_SC_step.desc).map (fun d => d.parameters.length) = some 1 := by decide +kernel
theorem d_SC_step_0 : decode b_SC_step 0 = .ok (.aload_n 0, 1) := by decide +kernel
theorem d_SC_step_1 : decode b_SC_step 1 = .ok (.aload_n 1, 1) := by decide +kernel
theorem d_SC_step_2 : decode b_SC_step 2 = .ok (.aload_n 0, 1) := by decide +kernel
theorem d_SC_step_3 : decode b_SC_step 3 = .ok (.getfield 15, 3) := by decide +kernel
theorem d_SC_step_6 : decode b_SC_step 6 = .ok (.invokestatic 18, 3) := by decide +kernel
theorem d_SC_step_9 : decode b_SC_step 9 = .ok (.putfield 9, 3) := by decide +kernel
theorem d_SC_step_12 : decode b_SC_step 12 = .ok (.aload_n 0, 1) := by decide +kernel
theorem d_SC_step_13 : decode b_SC_step 13 = .ok (.aload_n 0, 1) := by decide +kernel
theorem d_SC_step_14 : decode b_SC_step 14 = .ok (.getfield 9, 3) := by decide +kernel
theorem d_SC_step_17 : decode b_SC_step 17 = .ok (.putfield 15, 3) := by decide +kernel
theorem d_SC_step_20 : decode b_SC_step 20 = .ok (.aload_n 0, 1) := by decide +kernel
theorem d_SC_step_21 : decode b_SC_step 21 = .ok (.aload_n 0, 1) := by decide +kernel
theorem d_SC_step_22 : decode b_SC_step 22 = .ok (.aload_n 1, 1) := by decide +kernel
theorem d_SC_step_23 : decode b_SC_step 23 = .ok (.aload_n 1, 1) := by decide +kernel
theorem d_SC_step_24 : decode b_SC_step 24 = .ok (.aload_n 0, 1) := by decide +kernel
theorem d_SC_step_25 : decode b_SC_step 25 = .ok (.getfield 9, 3) := by decide +kernel
theorem d_SC_step_28 : decode b_SC_step 28 = .ok (.invokevirtual 22, 3) := by decide +kernel
theorem d_SC_step_31 : decode b_SC_step 31 = .ok (.invokevirtual 28, 3) := by decide +kernel
theorem d_SC_step_34 : decode b_SC_step 34 = .ok (.putfield 31, 3) := by decide +kernel
theorem d_SC_step_37 : decode b_SC_step 37 = .ok (.return_, 1) := by decide +kernel
abbrev b_SC_behindBlanks : ByteArray := prog_9_method_4_code
abbrev y_SC_behindBlanks : MethodName := ⟨R_SC, "behindBlanks", "(LTextTerms$Bytes;I)I"⟩
abbrev w_SC_behindBlanks : List Cond := (.code ⟨"TextTerms$Scanner", "behindBlanks", "(LTextTerms$Bytes;I)I"⟩ prog_9_method_4_code 5 (Option.some Jvm.ClassFile.FieldType.int)) :: tt_T
theorem hv_SC_behindBlanks : y_SC_behindBlanks.cls = R_SC ∧ y_SC_behindBlanks.cls ≠ "java/lang/invoke/MethodHandle" ∧ y_SC_behindBlanks.cls ≠ "java/lang/invoke/VarHandle" ∧ (parseMethodDescriptor y_SC_behindBlanks.desc).map (fun d => d.parameters.length) = some 2 := by decide +kernel
theorem d_SC_behindBlanks_0 : decode b_SC_behindBlanks 0 = .ok (.iconst 0, 1) := by decide +kernel
theorem d_SC_behindBlanks_1 : decode b_SC_behindBlanks 1 = .ok (.istore_n 2, 1) := by decide +kernel
theorem d_SC_behindBlanks_2 : decode b_SC_behindBlanks 2 = .ok (.iload_n 1, 1) := by decide +kernel
theorem d_SC_behindBlanks_3 : decode b_SC_behindBlanks 3 = .ok (.istore_n 3, 1) := by decide +kernel
theorem d_SC_behindBlanks_4 : decode b_SC_behindBlanks 4 = .ok (.iload_n 3, 1) := by decide +kernel
theorem d_SC_behindBlanks_5 : decode b_SC_behindBlanks 5 = .ok (.aload_n 0, 1) := by decide +kernel
theorem d_SC_behindBlanks_6 : decode b_SC_behindBlanks 6 = .ok (.getfield 34, 3) := by decide +kernel
theorem d_SC_behindBlanks_9 : decode b_SC_behindBlanks 9 = .ok (.if_icmp .ge 54, 3) := by decide +kernel
theorem d_SC_behindBlanks_12 : decode b_SC_behindBlanks 12 = .ok (.aload_n 0, 1) := by decide +kernel
theorem d_SC_behindBlanks_13 : decode b_SC_behindBlanks 13 = .ok (.iload_n 3, 1) := by decide +kernel
theorem d_SC_behindBlanks_14 : decode b_SC_behindBlanks 14 = .ok (.invokevirtual 22, 3) := by decide +kernel
theorem d_SC_behindBlanks_17 : decode b_SC_behindBlanks 17 = .ok (.istore 4, 2) := by decide +kernel
theorem d_SC_behindBlanks_19 : decode b_SC_behindBlanks 19 = .ok (.iload 4, 2) := by decide +kernel
theorem d_SC_behindBlanks_21 : decode b_SC_behindBlanks 21 = .ok (.bipush 35, 2) := by decide +kernel
theorem d_SC_behindBlanks_23 : decode b_SC_behindBlanks 23 = .ok (.if_icmp .ne 8, 3) := by decide +kernel
theorem d_SC_behindBlanks_26 : decode b_SC_behindBlanks 26 = .ok (.iconst 1, 1) := by decide +kernel
theorem d_SC_behindBlanks_27 : decode b_SC_behindBlanks 27 = .ok (.istore_n 2, 1) := by decide +kernel
theorem d_SC_behindBlanks_28 : decode b_SC_behindBlanks 28 = .ok (.goto 29, 3) := by decide +kernel
theorem d_SC_behindBlanks_31 : decode b_SC_behindBlanks 31 = .ok (.iload 4, 2) := by decide +kernel
theorem d_SC_behindBlanks_33 : decode b_SC_behindBlanks 33 = .ok (.bipush 10, 2) := by decide +kernel
theorem d_SC_behindBlanks_35 : decode b_SC_behindBlanks 35 = .ok (.if_icmp .ne 8, 3) := by decide +kernel
theorem d_SC_behindBlanks_38 : decode b_SC_behindBlanks 38 = .ok (.iconst 0, 1) := by decide +kernel
theorem d_SC_behindBlanks_39 : decode b_SC_behindBlanks 39 = .ok (.istore_n 2, 1) := by decide +kernel
theorem d_SC_behindBlanks_40 : decode b_SC_behindBlanks 40 = .ok (.goto 17, 3) := by decide +kernel
theorem d_SC_behindBlanks_43 : decode b_SC_behindBlanks 43 = .ok (.iload_n 2, 1) := by decide +kernel
theorem d_SC_behindBlanks_44 : decode b_SC_behindBlanks 44 = .ok (.ifCond .ne 13, 3) := by decide +kernel
theorem d_SC_behindBlanks_47 : decode b_SC_behindBlanks 47 = .ok (.iload 4, 2) := by decide +kernel
theorem d_SC_behindBlanks_49 : decode b_SC_behindBlanks 49 = .ok (.invokestatic 37, 3) := by decide +kernel
theorem d_SC_behindBlanks_52 : decode b_SC_behindBlanks 52 = .ok (.ifCond .ne 5, 3) := by decide +kernel
theorem d_SC_behindBlanks_55 : decode b_SC_behindBlanks 55 = .ok (.iload_n 3, 1) := by decide +kernel
theorem d_SC_behindBlanks_56 : decode b_SC_behindBlanks 56 = .ok (.ireturn, 1) := by decide +kernel
theorem d_SC_behindBlanks_57 : decode b_SC_behindBlanks 57 = .ok (.iinc 3 1, 3) := by decide +kernel
theorem d_SC_behindBlanks_60 : decode b_SC_behindBlanks 60 = .ok (.goto (-56), 3) := by decide +kernel
theorem d_SC_behindBlanks_63 : decode b_SC_behindBlanks 63 = .ok (.iload_n 3, 1) := by decide +kernel
theorem d_SC_behindBlanks_64 : decode b_SC_behindBlanks 64 = .ok (.ireturn, 1) := by decide +kernel
abbrev b_SC_tokenAt : ByteArray := prog_9_method_5_code
abbrev y_SC_tokenAt : MethodName := ⟨R_SC, "tokenAt", "(LTextTerms$Bytes;I)I"⟩
abbrev w_SC_tokenAt : List Cond := (.code ⟨"TextTerms$Scanner", "tokenAt", "(LTextTerms$Bytes;I)I"⟩ prog_9_method_5_code 4 (Option.some Jvm.ClassFile.FieldType.int)) :: tt_T
theorem hv_SC_tokenAt : y_SC_tokenAt.cls = R_SC ∧ y_SC_tokenAt.cls ≠ "java/lang/invoke/MethodHandle" ∧ y_SC_tokenAt.cls ≠ "java/lang/invoke/VarHandle" ∧ (parseMethodDescriptor y_SC_tokenAt.desc).map (fun d => d.parameters.length) = some 2 := by decide +kernel
theorem d_SC_tokenAt_0 : decode b_SC_tokenAt 0 = .ok (.iload_n 2, 1) := by decide +kernel
theorem d_SC_tokenAt_1 : decode b_SC_tokenAt 1 = .ok (.iconst (-1), 1) := by decide +kernel
theorem d_SC_tokenAt_2 : decode b_SC_tokenAt 2 = .ok (.if_icmp .ne 6, 3) := by decide +kernel
theorem d_SC_tokenAt_5 : decode b_SC_tokenAt 5 = .ok (.bipush 8, 2) := by decide +kernel
theorem d_SC_tokenAt_7 : decode b_SC_tokenAt 7 = .ok (.ireturn, 1) := by decide +kernel
theorem d_SC_tokenAt_8 : decode b_SC_tokenAt 8 = .ok (.iload_n 2, 1) := by decide +kernel
theorem d_SC_tokenAt_9 : decode b_SC_tokenAt 9 = .ok (.invokestatic 43, 3) := by decide +kernel
theorem d_SC_tokenAt_12 : decode b_SC_tokenAt 12 = .ok (.ifCond .eq 18, 3) := by decide +kernel
theorem d_SC_tokenAt_15 : decode b_SC_tokenAt 15 = .ok (.aload_n 0, 1) := by decide +kernel
theorem d_SC_tokenAt_16 : decode b_SC_tokenAt 16 = .ok (.aload_n 1, 1) := by decide +kernel
theorem d_SC_tokenAt_17 : decode b_SC_tokenAt 17 = .ok (.iconst 2, 1) := by decide +kernel
theorem d_SC_tokenAt_18 : decode b_SC_tokenAt 18 = .ok (.aload_n 0, 1) := by decide +kernel
theorem d_SC_tokenAt_19 : decode b_SC_tokenAt 19 = .ok (.getfield 9, 3) := by decide +kernel
theorem d_SC_tokenAt_22 : decode b_SC_tokenAt 22 = .ok (.invokevirtual 46, 3) := by decide +kernel
theorem d_SC_tokenAt_25 : decode b_SC_tokenAt 25 = .ok (.putfield 15, 3) := by decide +kernel
theorem d_SC_tokenAt_28 : decode b_SC_tokenAt 28 = .ok (.iconst 5, 1) := by decide +kernel
theorem d_SC_tokenAt_29 : decode b_SC_tokenAt 29 = .ok (.ireturn, 1) := by decide +kernel
theorem d_SC_tokenAt_30 : decode b_SC_tokenAt 30 = .ok (.iload_n 2, 1) := by decide +kernel
theorem d_SC_tokenAt_31 : decode b_SC_tokenAt 31 = .ok (.bipush 48, 2) := by decide +kernel
theorem d_SC_tokenAt_33 : decode b_SC_tokenAt 33 = .ok (.if_icmp .ne 54, 3) := by decide +kernel
theorem d_SC_tokenAt_36 : decode b_SC_tokenAt 36 = .ok (.aload_n 1, 1) := by decide +kernel
theorem d_SC_tokenAt_37 : decode b_SC_tokenAt 37 = .ok (.aload_n 0, 1) := by decide +kernel
theorem d_SC_tokenAt_38 : decode b_SC_tokenAt 38 = .ok (.getfield 9, 3) := by decide +kernel
theorem d_SC_tokenAt_41 : decode b_SC_tokenAt 41 = .ok (.iconst 1, 1) := by decide +kernel
theorem d_SC_tokenAt_42 : decode b_SC_tokenAt 42 = .ok (.iadd, 1) := by decide +kernel
theorem d_SC_tokenAt_43 : decode b_SC_tokenAt 43 = .ok (.invokevirtual 22, 3) := by decide +kernel
theorem d_SC_tokenAt_46 : decode b_SC_tokenAt 46 = .ok (.bipush 120, 2) := by decide +kernel
theorem d_SC_tokenAt_48 : decode b_SC_tokenAt 48 = .ok (.if_icmp .ne 39, 3) := by decide +kernel
theorem d_SC_tokenAt_51 : decode b_SC_tokenAt 51 = .ok (.aload_n 0, 1) := by decide +kernel
theorem d_SC_tokenAt_52 : decode b_SC_tokenAt 52 = .ok (.aload_n 1, 1) := by decide +kernel
theorem d_SC_tokenAt_53 : decode b_SC_tokenAt 53 = .ok (.iconst 1, 1) := by decide +kernel
theorem d_SC_tokenAt_54 : decode b_SC_tokenAt 54 = .ok (.aload_n 0, 1) := by decide +kernel
theorem d_SC_tokenAt_55 : decode b_SC_tokenAt 55 = .ok (.getfield 9, 3) := by decide +kernel
theorem d_SC_tokenAt_58 : decode b_SC_tokenAt 58 = .ok (.iconst 2, 1) := by decide +kernel
theorem d_SC_tokenAt_59 : decode b_SC_tokenAt 59 = .ok (.iadd, 1) := by decide +kernel
theorem d_SC_tokenAt_60 : decode b_SC_tokenAt 60 = .ok (.invokevirtual 46, 3) := by decide +kernel
theorem d_SC_tokenAt_63 : decode b_SC_tokenAt 63 = .ok (.putfield 15, 3) := by decide +kernel
theorem d_SC_tokenAt_66 : decode b_SC_tokenAt 66 = .ok (.aload_n 0, 1) := by decide +kernel
theorem d_SC_tokenAt_67 : decode b_SC_tokenAt 67 = .ok (.getfield 15, 3) := by decide +kernel
theorem d_SC_tokenAt_70 : decode b_SC_tokenAt 70 = .ok (.aload_n 0, 1) := by decide +kernel
theorem d_SC_tokenAt_71 : decode b_SC_tokenAt 71 = .ok (.getfield 9, 3) := by decide +kernel
theorem d_SC_tokenAt_74 : decode b_SC_tokenAt 74 = .ok (.isub, 1) := by decide +kernel
theorem d_SC_tokenAt_75 : decode b_SC_tokenAt 75 = .ok (.iconst 2, 1) := by decide +kernel
theorem d_SC_tokenAt_76 : decode b_SC_tokenAt 76 = .ok (.irem, 1) := by decide +kernel
theorem d_SC_tokenAt_77 : decode b_SC_tokenAt 77 = .ok (.ifCond .ne 7, 3) := by decide +kernel
theorem d_SC_tokenAt_80 : decode b_SC_tokenAt 80 = .ok (.iconst 2, 1) := by decide +kernel
theorem d_SC_tokenAt_81 : decode b_SC_tokenAt 81 = .ok (.goto 5, 3) := by decide +kernel
theorem d_SC_tokenAt_84 : decode b_SC_tokenAt 84 = .ok (.bipush 7, 2) := by decide +kernel
theorem d_SC_tokenAt_86 : decode b_SC_tokenAt 86 = .ok (.ireturn, 1) := by decide +kernel
theorem d_SC_tokenAt_87 : decode b_SC_tokenAt 87 = .ok (.iload_n 2, 1) := by decide +kernel
theorem d_SC_tokenAt_88 : decode b_SC_tokenAt 88 = .ok (.bipush 45, 2) := by decide +kernel
theorem d_SC_tokenAt_90 : decode b_SC_tokenAt 90 = .ok (.if_icmp .eq 10, 3) := by decide +kernel
theorem d_SC_tokenAt_93 : decode b_SC_tokenAt 93 = .ok (.iload_n 2, 1) := by decide +kernel
theorem d_SC_tokenAt_94 : decode b_SC_tokenAt 94 = .ok (.invokestatic 50, 3) := by decide +kernel
theorem d_SC_tokenAt_97 : decode b_SC_tokenAt 97 = .ok (.ifCond .eq 44, 3) := by decide +kernel
theorem d_SC_tokenAt_100 : decode b_SC_tokenAt 100 = .ok (.aload_n 0, 1) := by decide +kernel
theorem d_SC_tokenAt_101 : decode b_SC_tokenAt 101 = .ok (.aload_n 1, 1) := by decide +kernel
theorem d_SC_tokenAt_102 : decode b_SC_tokenAt 102 = .ok (.iconst 0, 1) := by decide +kernel
theorem d_SC_tokenAt_103 : decode b_SC_tokenAt 103 = .ok (.aload_n 0, 1) := by decide +kernel
theorem d_SC_tokenAt_104 : decode b_SC_tokenAt 104 = .ok (.getfield 9, 3) := by decide +kernel
theorem d_SC_tokenAt_107 : decode b_SC_tokenAt 107 = .ok (.iconst 1, 1) := by decide +kernel
theorem d_SC_tokenAt_108 : decode b_SC_tokenAt 108 = .ok (.iadd, 1) := by decide +kernel
theorem d_SC_tokenAt_109 : decode b_SC_tokenAt 109 = .ok (.invokevirtual 46, 3) := by decide +kernel
theorem d_SC_tokenAt_112 : decode b_SC_tokenAt 112 = .ok (.putfield 15, 3) := by decide +kernel
theorem d_SC_tokenAt_115 : decode b_SC_tokenAt 115 = .ok (.iload_n 2, 1) := by decide +kernel
theorem d_SC_tokenAt_116 : decode b_SC_tokenAt 116 = .ok (.bipush 45, 2) := by decide +kernel
theorem d_SC_tokenAt_118 : decode b_SC_tokenAt 118 = .ok (.if_icmp .ne 21, 3) := by decide +kernel
theorem d_SC_tokenAt_121 : decode b_SC_tokenAt 121 = .ok (.aload_n 0, 1) := by decide +kernel
theorem d_SC_tokenAt_122 : decode b_SC_tokenAt 122 = .ok (.getfield 15, 3) := by decide +kernel
theorem d_SC_tokenAt_125 : decode b_SC_tokenAt 125 = .ok (.aload_n 0, 1) := by decide +kernel
theorem d_SC_tokenAt_126 : decode b_SC_tokenAt 126 = .ok (.getfield 9, 3) := by decide +kernel
theorem d_SC_tokenAt_129 : decode b_SC_tokenAt 129 = .ok (.iconst 1, 1) := by decide +kernel
theorem d_SC_tokenAt_130 : decode b_SC_tokenAt 130 = .ok (.iadd, 1) := by decide +kernel
theorem d_SC_tokenAt_131 : decode b_SC_tokenAt 131 = .ok (.if_icmp .ne 8, 3) := by decide +kernel
theorem d_SC_tokenAt_134 : decode b_SC_tokenAt 134 = .ok (.bipush 7, 2) := by decide +kernel
theorem d_SC_tokenAt_136 : decode b_SC_tokenAt 136 = .ok (.goto 4, 3) := by decide +kernel
theorem d_SC_tokenAt_139 : decode b_SC_tokenAt 139 = .ok (.iconst 0, 1) := by decide +kernel
theorem d_SC_tokenAt_140 : decode b_SC_tokenAt 140 = .ok (.ireturn, 1) := by decide +kernel
theorem d_SC_tokenAt_141 : decode b_SC_tokenAt 141 = .ok (.iload_n 2, 1) := by decide +kernel
theorem d_SC_tokenAt_142 : decode b_SC_tokenAt 142 = .ok (.bipush 34, 2) := by decide +kernel
theorem d_SC_tokenAt_144 : decode b_SC_tokenAt 144 = .ok (.if_icmp .ne 9, 3) := by decide +kernel
theorem d_SC_tokenAt_147 : decode b_SC_tokenAt 147 = .ok (.aload_n 0, 1) := by decide +kernel
theorem d_SC_tokenAt_148 : decode b_SC_tokenAt 148 = .ok (.aload_n 1, 1) := by decide +kernel
theorem d_SC_tokenAt_149 : decode b_SC_tokenAt 149 = .ok (.invokevirtual 53, 3) := by decide +kernel
theorem d_SC_tokenAt_152 : decode b_SC_tokenAt 152 = .ok (.ireturn, 1) := by decide +kernel
theorem d_SC_tokenAt_153 : decode b_SC_tokenAt 153 = .ok (.iload_n 2, 1) := by decide +kernel
theorem d_SC_tokenAt_154 : decode b_SC_tokenAt 154 = .ok (.bipush 37, 2) := by decide +kernel
theorem d_SC_tokenAt_156 : decode b_SC_tokenAt 156 = .ok (.if_icmp .ne 53, 3) := by decide +kernel
theorem d_SC_tokenAt_159 : decode b_SC_tokenAt 159 = .ok (.aload_n 1, 1) := by decide +kernel
theorem d_SC_tokenAt_160 : decode b_SC_tokenAt 160 = .ok (.iconst 2, 1) := by decide +kernel
theorem d_SC_tokenAt_161 : decode b_SC_tokenAt 161 = .ok (.aload_n 0, 1) := by decide +kernel
theorem d_SC_tokenAt_162 : decode b_SC_tokenAt 162 = .ok (.getfield 9, 3) := by decide +kernel
theorem d_SC_tokenAt_165 : decode b_SC_tokenAt 165 = .ok (.iconst 1, 1) := by decide +kernel
theorem d_SC_tokenAt_166 : decode b_SC_tokenAt 166 = .ok (.iadd, 1) := by decide +kernel
theorem d_SC_tokenAt_167 : decode b_SC_tokenAt 167 = .ok (.invokevirtual 46, 3) := by decide +kernel
theorem d_SC_tokenAt_170 : decode b_SC_tokenAt 170 = .ok (.istore_n 3, 1) := by decide +kernel
theorem d_SC_tokenAt_171 : decode b_SC_tokenAt 171 = .ok (.aload_n 0, 1) := by decide +kernel
theorem d_SC_tokenAt_172 : decode b_SC_tokenAt 172 = .ok (.iload_n 3, 1) := by decide +kernel
theorem d_SC_tokenAt_173 : decode b_SC_tokenAt 173 = .ok (.aload_n 0, 1) := by decide +kernel
theorem d_SC_tokenAt_174 : decode b_SC_tokenAt 174 = .ok (.getfield 9, 3) := by decide +kernel
theorem d_SC_tokenAt_177 : decode b_SC_tokenAt 177 = .ok (.iconst 1, 1) := by decide +kernel
theorem d_SC_tokenAt_178 : decode b_SC_tokenAt 178 = .ok (.iadd, 1) := by decide +kernel
theorem d_SC_tokenAt_179 : decode b_SC_tokenAt 179 = .ok (.bipush 31, 2) := by decide +kernel
theorem d_SC_tokenAt_181 : decode b_SC_tokenAt 181 = .ok (.iadd, 1) := by decide +kernel
theorem d_SC_tokenAt_182 : decode b_SC_tokenAt 182 = .ok (.invokestatic 57, 3) := by decide +kernel
theorem d_SC_tokenAt_185 : decode b_SC_tokenAt 185 = .ok (.putfield 15, 3) := by decide +kernel
theorem d_SC_tokenAt_188 : decode b_SC_tokenAt 188 = .ok (.aload_n 0, 1) := by decide +kernel
theorem d_SC_tokenAt_189 : decode b_SC_tokenAt 189 = .ok (.getfield 15, 3) := by decide +kernel
theorem d_SC_tokenAt_192 : decode b_SC_tokenAt 192 = .ok (.aload_n 0, 1) := by decide +kernel
theorem d_SC_tokenAt_193 : decode b_SC_tokenAt 193 = .ok (.getfield 9, 3) := by decide +kernel
theorem d_SC_tokenAt_196 : decode b_SC_tokenAt 196 = .ok (.iconst 1, 1) := by decide +kernel
theorem d_SC_tokenAt_197 : decode b_SC_tokenAt 197 = .ok (.iadd, 1) := by decide +kernel
theorem d_SC_tokenAt_198 : decode b_SC_tokenAt 198 = .ok (.if_icmp .ne 8, 3) := by decide +kernel
theorem d_SC_tokenAt_201 : decode b_SC_tokenAt 201 = .ok (.bipush 7, 2) := by decide +kernel
theorem d_SC_tokenAt_203 : decode b_SC_tokenAt 203 = .ok (.goto 5, 3) := by decide +kernel
theorem d_SC_tokenAt_206 : decode b_SC_tokenAt 206 = .ok (.bipush 6, 2) := by decide +kernel
theorem d_SC_tokenAt_208 : decode b_SC_tokenAt 208 = .ok (.ireturn, 1) := by decide +kernel
theorem d_SC_tokenAt_209 : decode b_SC_tokenAt 209 = .ok (.aload_n 0, 1) := by decide +kernel
theorem d_SC_tokenAt_210 : decode b_SC_tokenAt 210 = .ok (.aload_n 0, 1) := by decide +kernel
theorem d_SC_tokenAt_211 : decode b_SC_tokenAt 211 = .ok (.getfield 9, 3) := by decide +kernel
theorem d_SC_tokenAt_214 : decode b_SC_tokenAt 214 = .ok (.iconst 1, 1) := by decide +kernel
theorem d_SC_tokenAt_215 : decode b_SC_tokenAt 215 = .ok (.iadd, 1) := by decide +kernel
theorem d_SC_tokenAt_216 : decode b_SC_tokenAt 216 = .ok (.putfield 15, 3) := by decide +kernel
theorem d_SC_tokenAt_219 : decode b_SC_tokenAt 219 = .ok (.iload_n 2, 1) := by decide +kernel
theorem d_SC_tokenAt_220 : decode b_SC_tokenAt 220 = .ok (.invokestatic 62, 3) := by decide +kernel
theorem d_SC_tokenAt_223 : decode b_SC_tokenAt 223 = .ok (.ifCond .eq 7, 3) := by decide +kernel
theorem d_SC_tokenAt_226 : decode b_SC_tokenAt 226 = .ok (.iload_n 2, 1) := by decide +kernel
theorem d_SC_tokenAt_227 : decode b_SC_tokenAt 227 = .ok (.goto 5, 3) := by decide +kernel
theorem d_SC_tokenAt_230 : decode b_SC_tokenAt 230 = .ok (.bipush 7, 2) := by decide +kernel
theorem d_SC_tokenAt_232 : decode b_SC_tokenAt 232 = .ok (.ireturn, 1) := by decide +kernel
abbrev b_SC_stringOrNone : ByteArray := prog_9_method_6_code
abbrev y_SC_stringOrNone : MethodName := ⟨R_SC, "stringOrNone", "(LTextTerms$Bytes;)I"⟩
abbrev w_SC_stringOrNone : List Cond := (.code ⟨"TextTerms$Scanner", "stringOrNone", "(LTextTerms$Bytes;)I"⟩ prog_9_method_6_code 4 (Option.some Jvm.ClassFile.FieldType.int)) :: tt_T
theorem hv_SC_stringOrNone : y_SC_stringOrNone.cls = R_SC ∧ y_SC_stringOrNone.cls ≠ "java/lang/invoke/MethodHandle" ∧ y_SC_stringOrNone.cls ≠ "java/lang/invoke/VarHandle" ∧ (parseMethodDescriptor y_SC_stringOrNone.desc).map (fun d => d.parameters.length) = some 1 := by decide +kernel
theorem d_SC_stringOrNone_0 : decode b_SC_stringOrNone 0 = .ok (.aload_n 0, 1) := by decide +kernel
theorem d_SC_stringOrNone_1 : decode b_SC_stringOrNone 1 = .ok (.getfield 9, 3) := by decide +kernel
theorem d_SC_stringOrNone_4 : decode b_SC_stringOrNone 4 = .ok (.iconst 1, 1) := by decide +kernel
theorem d_SC_stringOrNone_5 : decode b_SC_stringOrNone 5 = .ok (.iadd, 1) := by decide +kernel
theorem d_SC_stringOrNone_6 : decode b_SC_stringOrNone 6 = .ok (.istore_n 2, 1) := by decide +kernel
theorem d_SC_stringOrNone_7 : decode b_SC_stringOrNone 7 = .ok (.iload_n 2, 1) := by decide +kernel
theorem d_SC_stringOrNone_8 : decode b_SC_stringOrNone 8 = .ok (.aload_n 1, 1) := by decide +kernel
theorem d_SC_stringOrNone_9 : decode b_SC_stringOrNone 9 = .ok (.getfield 34, 3) := by decide +kernel
theorem d_SC_stringOrNone_12 : decode b_SC_stringOrNone 12 = .ok (.if_icmp .ge 69, 3) := by decide +kernel
theorem d_SC_stringOrNone_15 : decode b_SC_stringOrNone 15 = .ok (.aload_n 1, 1) := by decide +kernel
theorem d_SC_stringOrNone_16 : decode b_SC_stringOrNone 16 = .ok (.iload_n 2, 1) := by decide +kernel
theorem d_SC_stringOrNone_17 : decode b_SC_stringOrNone 17 = .ok (.invokevirtual 22, 3) := by decide +kernel
theorem d_SC_stringOrNone_20 : decode b_SC_stringOrNone 20 = .ok (.istore_n 3, 1) := by decide +kernel
theorem d_SC_stringOrNone_21 : decode b_SC_stringOrNone 21 = .ok (.iload_n 3, 1) := by decide +kernel
theorem d_SC_stringOrNone_22 : decode b_SC_stringOrNone 22 = .ok (.bipush 34, 2) := by decide +kernel
theorem d_SC_stringOrNone_24 : decode b_SC_stringOrNone 24 = .ok (.if_icmp .ne 12, 3) := by decide +kernel
theorem d_SC_stringOrNone_27 : decode b_SC_stringOrNone 27 = .ok (.aload_n 0, 1) := by decide +kernel
theorem d_SC_stringOrNone_28 : decode b_SC_stringOrNone 28 = .ok (.iload_n 2, 1) := by decide +kernel
theorem d_SC_stringOrNone_29 : decode b_SC_stringOrNone 29 = .ok (.iconst 1, 1) := by decide +kernel
theorem d_SC_stringOrNone_30 : decode b_SC_stringOrNone 30 = .ok (.iadd, 1) := by decide +kernel
theorem d_SC_stringOrNone_31 : decode b_SC_stringOrNone 31 = .ok (.putfield 15, 3) := by decide +kernel
theorem d_SC_stringOrNone_34 : decode b_SC_stringOrNone 34 = .ok (.iconst 1, 1) := by decide +kernel
theorem d_SC_stringOrNone_35 : decode b_SC_stringOrNone 35 = .ok (.ireturn, 1) := by decide +kernel
theorem d_SC_stringOrNone_36 : decode b_SC_stringOrNone 36 = .ok (.iload_n 3, 1) := by decide +kernel
theorem d_SC_stringOrNone_37 : decode b_SC_stringOrNone 37 = .ok (.invokestatic 65, 3) := by decide +kernel
theorem d_SC_stringOrNone_40 : decode b_SC_stringOrNone 40 = .ok (.ifCond .eq 9, 3) := by decide +kernel
theorem d_SC_stringOrNone_43 : decode b_SC_stringOrNone 43 = .ok (.iinc 2 1, 3) := by decide +kernel
theorem d_SC_stringOrNone_46 : decode b_SC_stringOrNone 46 = .ok (.goto 32, 3) := by decide +kernel
theorem d_SC_stringOrNone_49 : decode b_SC_stringOrNone 49 = .ok (.iload_n 3, 1) := by decide +kernel
theorem d_SC_stringOrNone_50 : decode b_SC_stringOrNone 50 = .ok (.bipush 92, 2) := by decide +kernel
theorem d_SC_stringOrNone_52 : decode b_SC_stringOrNone 52 = .ok (.if_icmp .ne 23, 3) := by decide +kernel
theorem d_SC_stringOrNone_55 : decode b_SC_stringOrNone 55 = .ok (.aload_n 1, 1) := by decide +kernel
theorem d_SC_stringOrNone_56 : decode b_SC_stringOrNone 56 = .ok (.iload_n 2, 1) := by decide +kernel
theorem d_SC_stringOrNone_57 : decode b_SC_stringOrNone 57 = .ok (.iconst 1, 1) := by decide +kernel
theorem d_SC_stringOrNone_58 : decode b_SC_stringOrNone 58 = .ok (.iadd, 1) := by decide +kernel
theorem d_SC_stringOrNone_59 : decode b_SC_stringOrNone 59 = .ok (.invokevirtual 22, 3) := by decide +kernel
theorem d_SC_stringOrNone_62 : decode b_SC_stringOrNone 62 = .ok (.invokestatic 68, 3) := by decide +kernel
theorem d_SC_stringOrNone_65 : decode b_SC_stringOrNone 65 = .ok (.iconst (-1), 1) := by decide +kernel
theorem d_SC_stringOrNone_66 : decode b_SC_stringOrNone 66 = .ok (.if_icmp .eq 9, 3) := by decide +kernel
theorem d_SC_stringOrNone_69 : decode b_SC_stringOrNone 69 = .ok (.iinc 2 2, 3) := by decide +kernel
theorem d_SC_stringOrNone_72 : decode b_SC_stringOrNone 72 = .ok (.goto 6, 3) := by decide +kernel
theorem d_SC_stringOrNone_75 : decode b_SC_stringOrNone 75 = .ok (.bipush 7, 2) := by decide +kernel
theorem d_SC_stringOrNone_77 : decode b_SC_stringOrNone 77 = .ok (.ireturn, 1) := by decide +kernel
theorem d_SC_stringOrNone_78 : decode b_SC_stringOrNone 78 = .ok (.goto (-71), 3) := by decide +kernel
theorem d_SC_stringOrNone_81 : decode b_SC_stringOrNone 81 = .ok (.bipush 7, 2) := by decide +kernel
theorem d_SC_stringOrNone_83 : decode b_SC_stringOrNone 83 = .ok (.ireturn, 1) := by decide +kernel
