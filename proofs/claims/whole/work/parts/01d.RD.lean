abbrev b_RD_init : ByteArray := prog_8_method_1_code
abbrev y_RD_init : MethodName := ⟨R_RD, "<init>", "()V"⟩
abbrev w_RD_init : List Cond := (.code ⟨"TextTerms$Reader", "<init>", "()V"⟩ prog_8_method_1_code 1 (Option.none : Option Jvm.ClassFile.FieldType)) :: tt_T
theorem hv_RD_init : y_RD_init.cls = R_RD ∧ y_RD_init.cls ≠ "java/lang/invoke/MethodHandle" ∧ y_RD_init.cls ≠ "java/lang/invoke/VarHandle" ∧ (parseMethodDescriptor y_RD_init.desc).map (fun d => d.parameters.length) = some 0 := by decide +kernel
theorem d_RD_init_0 : decode b_RD_init 0 = .ok (.aload_n 0, 1) := by decide +kernel
theorem d_RD_init_1 : decode b_RD_init 1 = .ok (.invokespecial 3, 3) := by decide +kernel
theorem d_RD_init_4 : decode b_RD_init 4 = .ok (.aload_n 0, 1) := by decide +kernel
theorem d_RD_init_5 : decode b_RD_init 5 = .ok (.new 9, 3) := by decide +kernel
theorem d_RD_init_8 : decode b_RD_init 8 = .ok (.dup, 1) := by decide +kernel
theorem d_RD_init_9 : decode b_RD_init 9 = .ok (.invokespecial 11, 3) := by decide +kernel
theorem d_RD_init_12 : decode b_RD_init 12 = .ok (.putfield 12, 3) := by decide +kernel
theorem d_RD_init_15 : decode b_RD_init 15 = .ok (.return_, 1) := by decide +kernel
abbrev b_RD_fill : ByteArray := prog_8_method_2_code
abbrev y_RD_fill : MethodName := ⟨R_RD, "fill", "(LTextTerms$Terms;)I"⟩
abbrev w_RD_fill : List Cond := (.code ⟨"TextTerms$Reader", "fill", "(LTextTerms$Terms;)I"⟩ prog_8_method_2_code 3 (Option.some Jvm.ClassFile.FieldType.int)) :: tt_T
theorem hv_RD_fill : y_RD_fill.cls = R_RD ∧ y_RD_fill.cls ≠ "java/lang/invoke/MethodHandle" ∧ y_RD_fill.cls ≠ "java/lang/invoke/VarHandle" ∧ (parseMethodDescriptor y_RD_fill.desc).map (fun d => d.parameters.length) = some 1 := by decide +kernel
theorem d_RD_fill_0 : decode b_RD_fill 0 = .ok (.aload_n 0, 1) := by decide +kernel
theorem d_RD_fill_1 : decode b_RD_fill 1 = .ok (.getfield 12, 3) := by decide +kernel
theorem d_RD_fill_4 : decode b_RD_fill 4 = .ok (.invokevirtual 18, 3) := by decide +kernel
theorem d_RD_fill_7 : decode b_RD_fill 7 = .ok (.aload_n 0, 1) := by decide +kernel
theorem d_RD_fill_8 : decode b_RD_fill 8 = .ok (.iconst (-1), 1) := by decide +kernel
theorem d_RD_fill_9 : decode b_RD_fill 9 = .ok (.putfield 21, 3) := by decide +kernel
theorem d_RD_fill_12 : decode b_RD_fill 12 = .ok (.aload_n 0, 1) := by decide +kernel
theorem d_RD_fill_13 : decode b_RD_fill 13 = .ok (.iconst 0, 1) := by decide +kernel
theorem d_RD_fill_14 : decode b_RD_fill 14 = .ok (.putfield 25, 3) := by decide +kernel
theorem d_RD_fill_17 : decode b_RD_fill 17 = .ok (.aload_n 0, 1) := by decide +kernel
theorem d_RD_fill_18 : decode b_RD_fill 18 = .ok (.iconst 0, 1) := by decide +kernel
theorem d_RD_fill_19 : decode b_RD_fill 19 = .ok (.putfield 28, 3) := by decide +kernel
theorem d_RD_fill_22 : decode b_RD_fill 22 = .ok (.iconst 0, 1) := by decide +kernel
theorem d_RD_fill_23 : decode b_RD_fill 23 = .ok (.istore_n 2, 1) := by decide +kernel
theorem d_RD_fill_24 : decode b_RD_fill 24 = .ok (.iload_n 2, 1) := by decide +kernel
theorem d_RD_fill_25 : decode b_RD_fill 25 = .ok (.aload_n 1, 1) := by decide +kernel
theorem d_RD_fill_26 : decode b_RD_fill 26 = .ok (.getfield 31, 3) := by decide +kernel
theorem d_RD_fill_29 : decode b_RD_fill 29 = .ok (.getfield 37, 3) := by decide +kernel
theorem d_RD_fill_32 : decode b_RD_fill 32 = .ok (.if_icmp .gt 56, 3) := by decide +kernel
theorem d_RD_fill_35 : decode b_RD_fill 35 = .ok (.aload_n 0, 1) := by decide +kernel
theorem d_RD_fill_36 : decode b_RD_fill 36 = .ok (.getfield 12, 3) := by decide +kernel
theorem d_RD_fill_39 : decode b_RD_fill 39 = .ok (.aload_n 1, 1) := by decide +kernel
theorem d_RD_fill_40 : decode b_RD_fill 40 = .ok (.getfield 31, 3) := by decide +kernel
theorem d_RD_fill_43 : decode b_RD_fill 43 = .ok (.invokevirtual 42, 3) := by decide +kernel
theorem d_RD_fill_46 : decode b_RD_fill 46 = .ok (.aload_n 0, 1) := by decide +kernel
theorem d_RD_fill_47 : decode b_RD_fill 47 = .ok (.aload_n 1, 1) := by decide +kernel
theorem d_RD_fill_48 : decode b_RD_fill 48 = .ok (.invokevirtual 46, 3) := by decide +kernel
theorem d_RD_fill_51 : decode b_RD_fill 51 = .ok (.aload_n 0, 1) := by decide +kernel
theorem d_RD_fill_52 : decode b_RD_fill 52 = .ok (.getfield 12, 3) := by decide +kernel
theorem d_RD_fill_55 : decode b_RD_fill 55 = .ok (.getfield 50, 3) := by decide +kernel
theorem d_RD_fill_58 : decode b_RD_fill 58 = .ok (.bipush 8, 2) := by decide +kernel
theorem d_RD_fill_60 : decode b_RD_fill 60 = .ok (.if_icmp .ne 6, 3) := by decide +kernel
theorem d_RD_fill_63 : decode b_RD_fill 63 = .ok (.goto 25, 3) := by decide +kernel
theorem d_RD_fill_66 : decode b_RD_fill 66 = .ok (.aload_n 0, 1) := by decide +kernel
theorem d_RD_fill_67 : decode b_RD_fill 67 = .ok (.aload_n 1, 1) := by decide +kernel
theorem d_RD_fill_68 : decode b_RD_fill 68 = .ok (.invokevirtual 53, 3) := by decide +kernel
theorem d_RD_fill_71 : decode b_RD_fill 71 = .ok (.ifCond .ne 11, 3) := by decide +kernel
theorem d_RD_fill_74 : decode b_RD_fill 74 = .ok (.aload_n 0, 1) := by decide +kernel
theorem d_RD_fill_75 : decode b_RD_fill 75 = .ok (.getfield 12, 3) := by decide +kernel
theorem d_RD_fill_78 : decode b_RD_fill 78 = .ok (.getfield 57, 3) := by decide +kernel
theorem d_RD_fill_81 : decode b_RD_fill 81 = .ok (.ireturn, 1) := by decide +kernel
theorem d_RD_fill_82 : decode b_RD_fill 82 = .ok (.iinc 2 1, 3) := by decide +kernel
theorem d_RD_fill_85 : decode b_RD_fill 85 = .ok (.goto (-61), 3) := by decide +kernel
theorem d_RD_fill_88 : decode b_RD_fill 88 = .ok (.aload_n 0, 1) := by decide +kernel
theorem d_RD_fill_89 : decode b_RD_fill 89 = .ok (.getfield 21, 3) := by decide +kernel
theorem d_RD_fill_92 : decode b_RD_fill 92 = .ok (.iconst (-1), 1) := by decide +kernel
theorem d_RD_fill_93 : decode b_RD_fill 93 = .ok (.if_icmp .ne 11, 3) := by decide +kernel
theorem d_RD_fill_96 : decode b_RD_fill 96 = .ok (.aload_n 0, 1) := by decide +kernel
theorem d_RD_fill_97 : decode b_RD_fill 97 = .ok (.getfield 28, 3) := by decide +kernel
theorem d_RD_fill_100 : decode b_RD_fill 100 = .ok (.iconst 1, 1) := by decide +kernel
theorem d_RD_fill_101 : decode b_RD_fill 101 = .ok (.if_icmp .eq 11, 3) := by decide +kernel
theorem d_RD_fill_104 : decode b_RD_fill 104 = .ok (.aload_n 1, 1) := by decide +kernel
theorem d_RD_fill_105 : decode b_RD_fill 105 = .ok (.getfield 31, 3) := by decide +kernel
theorem d_RD_fill_108 : decode b_RD_fill 108 = .ok (.getfield 37, 3) := by decide +kernel
theorem d_RD_fill_111 : decode b_RD_fill 111 = .ok (.ireturn, 1) := by decide +kernel
theorem d_RD_fill_112 : decode b_RD_fill 112 = .ok (.aload_n 1, 1) := by decide +kernel
theorem d_RD_fill_113 : decode b_RD_fill 113 = .ok (.invokevirtual 60, 3) := by decide +kernel
theorem d_RD_fill_116 : decode b_RD_fill 116 = .ok (.iconst (-1), 1) := by decide +kernel
theorem d_RD_fill_117 : decode b_RD_fill 117 = .ok (.ireturn, 1) := by decide +kernel
abbrev b_RD_takes : ByteArray := prog_8_method_3_code
abbrev y_RD_takes : MethodName := ⟨R_RD, "takes", "(LTextTerms$Terms;)Z"⟩
abbrev w_RD_takes : List Cond := (.code ⟨"TextTerms$Reader", "takes", "(LTextTerms$Terms;)Z"⟩ prog_8_method_3_code 2 (Option.some Jvm.ClassFile.FieldType.boolean)) :: tt_T
theorem hv_RD_takes : y_RD_takes.cls = R_RD ∧ y_RD_takes.cls ≠ "java/lang/invoke/MethodHandle" ∧ y_RD_takes.cls ≠ "java/lang/invoke/VarHandle" ∧ (parseMethodDescriptor y_RD_takes.desc).map (fun d => d.parameters.length) = some 1 := by decide +kernel
theorem d_RD_takes_0 : decode b_RD_takes 0 = .ok (.aload_n 0, 1) := by decide +kernel
theorem d_RD_takes_1 : decode b_RD_takes 1 = .ok (.getfield 12, 3) := by decide +kernel
theorem d_RD_takes_4 : decode b_RD_takes 4 = .ok (.getfield 50, 3) := by decide +kernel
theorem d_RD_takes_7 : decode b_RD_takes 7 = .ok (.lookupswitch 181 #[(0, 89), (1, 128), (2, 128), (5, 141), (6, 147), (40, 170), (41, 175), (59, 165), (123, 153), (125, 159)], 89) := by decide +kernel
theorem d_RD_takes_96 : decode b_RD_takes 96 = .ok (.aload_n 1, 1) := by decide +kernel
theorem d_RD_takes_97 : decode b_RD_takes 97 = .ok (.getfield 31, 3) := by decide +kernel
theorem d_RD_takes_100 : decode b_RD_takes 100 = .ok (.aload_n 0, 1) := by decide +kernel
theorem d_RD_takes_101 : decode b_RD_takes 101 = .ok (.getfield 12, 3) := by decide +kernel
theorem d_RD_takes_104 : decode b_RD_takes 104 = .ok (.getfield 57, 3) := by decide +kernel
theorem d_RD_takes_107 : decode b_RD_takes 107 = .ok (.aload_n 0, 1) := by decide +kernel
theorem d_RD_takes_108 : decode b_RD_takes 108 = .ok (.getfield 12, 3) := by decide +kernel
theorem d_RD_takes_111 : decode b_RD_takes 111 = .ok (.getfield 63, 3) := by decide +kernel
theorem d_RD_takes_114 : decode b_RD_takes 114 = .ok (.invokestatic 66, 3) := by decide +kernel
theorem d_RD_takes_117 : decode b_RD_takes 117 = .ok (.ifCond .ne 16, 3) := by decide +kernel
theorem d_RD_takes_120 : decode b_RD_takes 120 = .ok (.aload_n 0, 1) := by decide +kernel
theorem d_RD_takes_121 : decode b_RD_takes 121 = .ok (.aload_n 1, 1) := by decide +kernel
theorem d_RD_takes_122 : decode b_RD_takes 122 = .ok (.iconst 0, 1) := by decide +kernel
theorem d_RD_takes_123 : decode b_RD_takes 123 = .ok (.invokevirtual 72, 3) := by decide +kernel
theorem d_RD_takes_126 : decode b_RD_takes 126 = .ok (.ifCond .eq 7, 3) := by decide +kernel
theorem d_RD_takes_129 : decode b_RD_takes 129 = .ok (.iconst 1, 1) := by decide +kernel
theorem d_RD_takes_130 : decode b_RD_takes 130 = .ok (.goto 4, 3) := by decide +kernel
theorem d_RD_takes_133 : decode b_RD_takes 133 = .ok (.iconst 0, 1) := by decide +kernel
theorem d_RD_takes_134 : decode b_RD_takes 134 = .ok (.ireturn, 1) := by decide +kernel
theorem d_RD_takes_135 : decode b_RD_takes 135 = .ok (.aload_n 0, 1) := by decide +kernel
theorem d_RD_takes_136 : decode b_RD_takes 136 = .ok (.aload_n 1, 1) := by decide +kernel
theorem d_RD_takes_137 : decode b_RD_takes 137 = .ok (.aload_n 0, 1) := by decide +kernel
theorem d_RD_takes_138 : decode b_RD_takes 138 = .ok (.getfield 12, 3) := by decide +kernel
theorem d_RD_takes_141 : decode b_RD_takes 141 = .ok (.getfield 50, 3) := by decide +kernel
theorem d_RD_takes_144 : decode b_RD_takes 144 = .ok (.invokevirtual 72, 3) := by decide +kernel
theorem d_RD_takes_147 : decode b_RD_takes 147 = .ok (.ireturn, 1) := by decide +kernel
theorem d_RD_takes_148 : decode b_RD_takes 148 = .ok (.aload_n 0, 1) := by decide +kernel
theorem d_RD_takes_149 : decode b_RD_takes 149 = .ok (.aload_n 1, 1) := by decide +kernel
theorem d_RD_takes_150 : decode b_RD_takes 150 = .ok (.invokevirtual 76, 3) := by decide +kernel
theorem d_RD_takes_153 : decode b_RD_takes 153 = .ok (.ireturn, 1) := by decide +kernel
theorem d_RD_takes_154 : decode b_RD_takes 154 = .ok (.aload_n 0, 1) := by decide +kernel
theorem d_RD_takes_155 : decode b_RD_takes 155 = .ok (.aload_n 1, 1) := by decide +kernel
theorem d_RD_takes_156 : decode b_RD_takes 156 = .ok (.invokevirtual 79, 3) := by decide +kernel
theorem d_RD_takes_159 : decode b_RD_takes 159 = .ok (.ireturn, 1) := by decide +kernel
theorem d_RD_takes_160 : decode b_RD_takes 160 = .ok (.aload_n 0, 1) := by decide +kernel
theorem d_RD_takes_161 : decode b_RD_takes 161 = .ok (.aload_n 1, 1) := by decide +kernel
theorem d_RD_takes_162 : decode b_RD_takes 162 = .ok (.invokevirtual 82, 3) := by decide +kernel
theorem d_RD_takes_165 : decode b_RD_takes 165 = .ok (.ireturn, 1) := by decide +kernel
theorem d_RD_takes_166 : decode b_RD_takes 166 = .ok (.aload_n 0, 1) := by decide +kernel
theorem d_RD_takes_167 : decode b_RD_takes 167 = .ok (.aload_n 1, 1) := by decide +kernel
theorem d_RD_takes_168 : decode b_RD_takes 168 = .ok (.invokevirtual 85, 3) := by decide +kernel
theorem d_RD_takes_171 : decode b_RD_takes 171 = .ok (.ireturn, 1) := by decide +kernel
theorem d_RD_takes_172 : decode b_RD_takes 172 = .ok (.aload_n 0, 1) := by decide +kernel
theorem d_RD_takes_173 : decode b_RD_takes 173 = .ok (.invokevirtual 88, 3) := by decide +kernel
theorem d_RD_takes_176 : decode b_RD_takes 176 = .ok (.ireturn, 1) := by decide +kernel
theorem d_RD_takes_177 : decode b_RD_takes 177 = .ok (.aload_n 0, 1) := by decide +kernel
theorem d_RD_takes_178 : decode b_RD_takes 178 = .ok (.invokevirtual 92, 3) := by decide +kernel
theorem d_RD_takes_181 : decode b_RD_takes 181 = .ok (.ireturn, 1) := by decide +kernel
theorem d_RD_takes_182 : decode b_RD_takes 182 = .ok (.aload_n 0, 1) := by decide +kernel
theorem d_RD_takes_183 : decode b_RD_takes 183 = .ok (.aload_n 1, 1) := by decide +kernel
theorem d_RD_takes_184 : decode b_RD_takes 184 = .ok (.invokevirtual 95, 3) := by decide +kernel
theorem d_RD_takes_187 : decode b_RD_takes 187 = .ok (.ireturn, 1) := by decide +kernel
theorem d_RD_takes_188 : decode b_RD_takes 188 = .ok (.iconst 0, 1) := by decide +kernel
theorem d_RD_takes_189 : decode b_RD_takes 189 = .ok (.ireturn, 1) := by decide +kernel
abbrev b_RD_takesLeaf : ByteArray := prog_8_method_4_code
abbrev y_RD_takesLeaf : MethodName := ⟨R_RD, "takesLeaf", "(LTextTerms$Terms;I)Z"⟩
abbrev w_RD_takesLeaf : List Cond := (.code ⟨"TextTerms$Reader", "takesLeaf", "(LTextTerms$Terms;I)Z"⟩ prog_8_method_4_code 3 (Option.some Jvm.ClassFile.FieldType.boolean)) :: tt_T
theorem hv_RD_takesLeaf : y_RD_takesLeaf.cls = R_RD ∧ y_RD_takesLeaf.cls ≠ "java/lang/invoke/MethodHandle" ∧ y_RD_takesLeaf.cls ≠ "java/lang/invoke/VarHandle" ∧ (parseMethodDescriptor y_RD_takesLeaf.desc).map (fun d => d.parameters.length) = some 2 := by decide +kernel
theorem d_RD_takesLeaf_0 : decode b_RD_takesLeaf 0 = .ok (.aload_n 0, 1) := by decide +kernel
theorem d_RD_takesLeaf_1 : decode b_RD_takesLeaf 1 = .ok (.getfield 28, 3) := by decide +kernel
theorem d_RD_takesLeaf_4 : decode b_RD_takesLeaf 4 = .ok (.ifCond .eq 10, 3) := by decide +kernel
theorem d_RD_takesLeaf_7 : decode b_RD_takesLeaf 7 = .ok (.aload_n 0, 1) := by decide +kernel
theorem d_RD_takesLeaf_8 : decode b_RD_takesLeaf 8 = .ok (.invokevirtual 98, 3) := by decide +kernel
theorem d_RD_takesLeaf_11 : decode b_RD_takesLeaf 11 = .ok (.ifCond .eq 13, 3) := by decide +kernel
theorem d_RD_takesLeaf_14 : decode b_RD_takesLeaf 14 = .ok (.aload_n 0, 1) := by decide +kernel
theorem d_RD_takesLeaf_15 : decode b_RD_takesLeaf 15 = .ok (.aload_n 1, 1) := by decide +kernel
theorem d_RD_takesLeaf_16 : decode b_RD_takesLeaf 16 = .ok (.iload_n 2, 1) := by decide +kernel
theorem d_RD_takesLeaf_17 : decode b_RD_takesLeaf 17 = .ok (.invokevirtual 101, 3) := by decide +kernel
theorem d_RD_takesLeaf_20 : decode b_RD_takesLeaf 20 = .ok (.iconst (-1), 1) := by decide +kernel
theorem d_RD_takesLeaf_21 : decode b_RD_takesLeaf 21 = .ok (.if_icmp .ne 5, 3) := by decide +kernel
theorem d_RD_takesLeaf_24 : decode b_RD_takesLeaf 24 = .ok (.iconst 0, 1) := by decide +kernel
theorem d_RD_takesLeaf_25 : decode b_RD_takesLeaf 25 = .ok (.ireturn, 1) := by decide +kernel
theorem d_RD_takesLeaf_26 : decode b_RD_takesLeaf 26 = .ok (.aload_n 0, 1) := by decide +kernel
theorem d_RD_takesLeaf_27 : decode b_RD_takesLeaf 27 = .ok (.aload_n 0, 1) := by decide +kernel
theorem d_RD_takesLeaf_28 : decode b_RD_takesLeaf 28 = .ok (.aload_n 1, 1) := by decide +kernel
theorem d_RD_takesLeaf_29 : decode b_RD_takesLeaf 29 = .ok (.invokevirtual 105, 3) := by decide +kernel
theorem d_RD_takesLeaf_32 : decode b_RD_takesLeaf 32 = .ok (.putfield 28, 3) := by decide +kernel
theorem d_RD_takesLeaf_35 : decode b_RD_takesLeaf 35 = .ok (.iconst 1, 1) := by decide +kernel
theorem d_RD_takesLeaf_36 : decode b_RD_takesLeaf 36 = .ok (.ireturn, 1) := by decide +kernel
abbrev b_RD_takesWord : ByteArray := prog_8_method_5_code
abbrev y_RD_takesWord : MethodName := ⟨R_RD, "takesWord", "(LTextTerms$Terms;)Z"⟩
abbrev w_RD_takesWord : List Cond := (.code ⟨"TextTerms$Reader", "takesWord", "(LTextTerms$Terms;)Z"⟩ prog_8_method_5_code 2 (Option.some Jvm.ClassFile.FieldType.boolean)) :: tt_T
theorem hv_RD_takesWord : y_RD_takesWord.cls = R_RD ∧ y_RD_takesWord.cls ≠ "java/lang/invoke/MethodHandle" ∧ y_RD_takesWord.cls ≠ "java/lang/invoke/VarHandle" ∧ (parseMethodDescriptor y_RD_takesWord.desc).map (fun d => d.parameters.length) = some 1 := by decide +kernel
theorem d_RD_takesWord_0 : decode b_RD_takesWord 0 = .ok (.aload_n 0, 1) := by decide +kernel
theorem d_RD_takesWord_1 : decode b_RD_takesWord 1 = .ok (.invokevirtual 98, 3) := by decide +kernel
theorem d_RD_takesWord_4 : decode b_RD_takesWord 4 = .ok (.ifCond .eq 10, 3) := by decide +kernel
theorem d_RD_takesWord_7 : decode b_RD_takesWord 7 = .ok (.aload_n 0, 1) := by decide +kernel
theorem d_RD_takesWord_8 : decode b_RD_takesWord 8 = .ok (.aload_n 1, 1) := by decide +kernel
theorem d_RD_takesWord_9 : decode b_RD_takesWord 9 = .ok (.iconst 4, 1) := by decide +kernel
theorem d_RD_takesWord_10 : decode b_RD_takesWord 10 = .ok (.invokevirtual 72, 3) := by decide +kernel
theorem d_RD_takesWord_13 : decode b_RD_takesWord 13 = .ok (.ireturn, 1) := by decide +kernel
theorem d_RD_takesWord_14 : decode b_RD_takesWord 14 = .ok (.aload_n 0, 1) := by decide +kernel
theorem d_RD_takesWord_15 : decode b_RD_takesWord 15 = .ok (.getfield 28, 3) := by decide +kernel
theorem d_RD_takesWord_18 : decode b_RD_takesWord 18 = .ok (.ifCond .eq 11, 3) := by decide +kernel
theorem d_RD_takesWord_21 : decode b_RD_takesWord 21 = .ok (.aload_n 0, 1) := by decide +kernel
theorem d_RD_takesWord_22 : decode b_RD_takesWord 22 = .ok (.getfield 28, 3) := by decide +kernel
theorem d_RD_takesWord_25 : decode b_RD_takesWord 25 = .ok (.iconst 2, 1) := by decide +kernel
theorem d_RD_takesWord_26 : decode b_RD_takesWord 26 = .ok (.if_icmp .ne 17, 3) := by decide +kernel
theorem d_RD_takesWord_29 : decode b_RD_takesWord 29 = .ok (.aload_n 0, 1) := by decide +kernel
theorem d_RD_takesWord_30 : decode b_RD_takesWord 30 = .ok (.aload_n 1, 1) := by decide +kernel
theorem d_RD_takesWord_31 : decode b_RD_takesWord 31 = .ok (.iconst 4, 1) := by decide +kernel
theorem d_RD_takesWord_32 : decode b_RD_takesWord 32 = .ok (.iconst 3, 1) := by decide +kernel
theorem d_RD_takesWord_33 : decode b_RD_takesWord 33 = .ok (.invokevirtual 109, 3) := by decide +kernel
theorem d_RD_takesWord_36 : decode b_RD_takesWord 36 = .ok (.ifCond .eq 7, 3) := by decide +kernel
theorem d_RD_takesWord_39 : decode b_RD_takesWord 39 = .ok (.iconst 1, 1) := by decide +kernel
theorem d_RD_takesWord_40 : decode b_RD_takesWord 40 = .ok (.goto 4, 3) := by decide +kernel
theorem d_RD_takesWord_43 : decode b_RD_takesWord 43 = .ok (.iconst 0, 1) := by decide +kernel
theorem d_RD_takesWord_44 : decode b_RD_takesWord 44 = .ok (.ireturn, 1) := by decide +kernel
abbrev b_RD_takesMark : ByteArray := prog_8_method_6_code
abbrev y_RD_takesMark : MethodName := ⟨R_RD, "takesMark", "(LTextTerms$Terms;)Z"⟩
abbrev w_RD_takesMark : List Cond := (.code ⟨"TextTerms$Reader", "takesMark", "(LTextTerms$Terms;)Z"⟩ prog_8_method_6_code 2 (Option.some Jvm.ClassFile.FieldType.boolean)) :: tt_T
theorem hv_RD_takesMark : y_RD_takesMark.cls = R_RD ∧ y_RD_takesMark.cls ≠ "java/lang/invoke/MethodHandle" ∧ y_RD_takesMark.cls ≠ "java/lang/invoke/VarHandle" ∧ (parseMethodDescriptor y_RD_takesMark.desc).map (fun d => d.parameters.length) = some 1 := by decide +kernel
theorem d_RD_takesMark_0 : decode b_RD_takesMark 0 = .ok (.aload_n 0, 1) := by decide +kernel
theorem d_RD_takesMark_1 : decode b_RD_takesMark 1 = .ok (.getfield 28, 3) := by decide +kernel
theorem d_RD_takesMark_4 : decode b_RD_takesMark 4 = .ok (.iconst 3, 1) := by decide +kernel
theorem d_RD_takesMark_5 : decode b_RD_takesMark 5 = .ok (.if_icmp .eq 5, 3) := by decide +kernel
theorem d_RD_takesMark_8 : decode b_RD_takesMark 8 = .ok (.iconst 0, 1) := by decide +kernel
theorem d_RD_takesMark_9 : decode b_RD_takesMark 9 = .ok (.ireturn, 1) := by decide +kernel
theorem d_RD_takesMark_10 : decode b_RD_takesMark 10 = .ok (.aload_n 1, 1) := by decide +kernel
theorem d_RD_takesMark_11 : decode b_RD_takesMark 11 = .ok (.aload_n 0, 1) := by decide +kernel
theorem d_RD_takesMark_12 : decode b_RD_takesMark 12 = .ok (.getfield 21, 3) := by decide +kernel
theorem d_RD_takesMark_15 : decode b_RD_takesMark 15 = .ok (.aload_n 0, 1) := by decide +kernel
theorem d_RD_takesMark_16 : decode b_RD_takesMark 16 = .ok (.getfield 12, 3) := by decide +kernel
theorem d_RD_takesMark_19 : decode b_RD_takesMark 19 = .ok (.getfield 57, 3) := by decide +kernel
theorem d_RD_takesMark_22 : decode b_RD_takesMark 22 = .ok (.iconst 1, 1) := by decide +kernel
theorem d_RD_takesMark_23 : decode b_RD_takesMark 23 = .ok (.iadd, 1) := by decide +kernel
theorem d_RD_takesMark_24 : decode b_RD_takesMark 24 = .ok (.aload_n 0, 1) := by decide +kernel
theorem d_RD_takesMark_25 : decode b_RD_takesMark 25 = .ok (.getfield 12, 3) := by decide +kernel
theorem d_RD_takesMark_28 : decode b_RD_takesMark 28 = .ok (.getfield 63, 3) := by decide +kernel
theorem d_RD_takesMark_31 : decode b_RD_takesMark 31 = .ok (.invokevirtual 113, 3) := by decide +kernel
theorem d_RD_takesMark_34 : decode b_RD_takesMark 34 = .ok (.aload_n 0, 1) := by decide +kernel
theorem d_RD_takesMark_35 : decode b_RD_takesMark 35 = .ok (.iconst 4, 1) := by decide +kernel
theorem d_RD_takesMark_36 : decode b_RD_takesMark 36 = .ok (.putfield 28, 3) := by decide +kernel
theorem d_RD_takesMark_39 : decode b_RD_takesMark 39 = .ok (.iconst 1, 1) := by decide +kernel
theorem d_RD_takesMark_40 : decode b_RD_takesMark 40 = .ok (.ireturn, 1) := by decide +kernel
abbrev b_RD_takesSequence : ByteArray := prog_8_method_7_code
abbrev y_RD_takesSequence : MethodName := ⟨R_RD, "takesSequence", "(LTextTerms$Terms;)Z"⟩
abbrev w_RD_takesSequence : List Cond := (.code ⟨"TextTerms$Reader", "takesSequence", "(LTextTerms$Terms;)Z"⟩ prog_8_method_7_code 2 (Option.some Jvm.ClassFile.FieldType.boolean)) :: tt_T
theorem hv_RD_takesSequence : y_RD_takesSequence.cls = R_RD ∧ y_RD_takesSequence.cls ≠ "java/lang/invoke/MethodHandle" ∧ y_RD_takesSequence.cls ≠ "java/lang/invoke/VarHandle" ∧ (parseMethodDescriptor y_RD_takesSequence.desc).map (fun d => d.parameters.length) = some 1 := by decide +kernel
theorem d_RD_takesSequence_0 : decode b_RD_takesSequence 0 = .ok (.aload_n 0, 1) := by decide +kernel
theorem d_RD_takesSequence_1 : decode b_RD_takesSequence 1 = .ok (.getfield 28, 3) := by decide +kernel
theorem d_RD_takesSequence_4 : decode b_RD_takesSequence 4 = .ok (.ifCond .eq 10, 3) := by decide +kernel
theorem d_RD_takesSequence_7 : decode b_RD_takesSequence 7 = .ok (.aload_n 0, 1) := by decide +kernel
theorem d_RD_takesSequence_8 : decode b_RD_takesSequence 8 = .ok (.invokevirtual 98, 3) := by decide +kernel
theorem d_RD_takesSequence_11 : decode b_RD_takesSequence 11 = .ok (.ifCond .eq 17, 3) := by decide +kernel
theorem d_RD_takesSequence_14 : decode b_RD_takesSequence 14 = .ok (.aload_n 0, 1) := by decide +kernel
theorem d_RD_takesSequence_15 : decode b_RD_takesSequence 15 = .ok (.aload_n 1, 1) := by decide +kernel
theorem d_RD_takesSequence_16 : decode b_RD_takesSequence 16 = .ok (.iconst 3, 1) := by decide +kernel
theorem d_RD_takesSequence_17 : decode b_RD_takesSequence 17 = .ok (.iconst 0, 1) := by decide +kernel
theorem d_RD_takesSequence_18 : decode b_RD_takesSequence 18 = .ok (.invokevirtual 109, 3) := by decide +kernel
theorem d_RD_takesSequence_21 : decode b_RD_takesSequence 21 = .ok (.ifCond .eq 7, 3) := by decide +kernel
theorem d_RD_takesSequence_24 : decode b_RD_takesSequence 24 = .ok (.iconst 1, 1) := by decide +kernel
theorem d_RD_takesSequence_25 : decode b_RD_takesSequence 25 = .ok (.goto 4, 3) := by decide +kernel
theorem d_RD_takesSequence_28 : decode b_RD_takesSequence 28 = .ok (.iconst 0, 1) := by decide +kernel
theorem d_RD_takesSequence_29 : decode b_RD_takesSequence 29 = .ok (.ireturn, 1) := by decide +kernel
abbrev b_RD_takesSequenceEnd : ByteArray := prog_8_method_8_code
abbrev y_RD_takesSequenceEnd : MethodName := ⟨R_RD, "takesSequenceEnd", "(LTextTerms$Terms;)Z"⟩
abbrev w_RD_takesSequenceEnd : List Cond := (.code ⟨"TextTerms$Reader", "takesSequenceEnd", "(LTextTerms$Terms;)Z"⟩ prog_8_method_8_code 2 (Option.some Jvm.ClassFile.FieldType.boolean)) :: tt_T
theorem hv_RD_takesSequenceEnd : y_RD_takesSequenceEnd.cls = R_RD ∧ y_RD_takesSequenceEnd.cls ≠ "java/lang/invoke/MethodHandle" ∧ y_RD_takesSequenceEnd.cls ≠ "java/lang/invoke/VarHandle" ∧ (parseMethodDescriptor y_RD_takesSequenceEnd.desc).map (fun d => d.parameters.length) = some 1 := by decide +kernel
theorem d_RD_takesSequenceEnd_0 : decode b_RD_takesSequenceEnd 0 = .ok (.aload_n 0, 1) := by decide +kernel
theorem d_RD_takesSequenceEnd_1 : decode b_RD_takesSequenceEnd 1 = .ok (.getfield 21, 3) := by decide +kernel
theorem d_RD_takesSequenceEnd_4 : decode b_RD_takesSequenceEnd 4 = .ok (.iconst (-1), 1) := by decide +kernel
theorem d_RD_takesSequenceEnd_5 : decode b_RD_takesSequenceEnd 5 = .ok (.if_icmp .eq 18, 3) := by decide +kernel
theorem d_RD_takesSequenceEnd_8 : decode b_RD_takesSequenceEnd 8 = .ok (.aload_n 0, 1) := by decide +kernel
theorem d_RD_takesSequenceEnd_9 : decode b_RD_takesSequenceEnd 9 = .ok (.getfield 28, 3) := by decide +kernel
theorem d_RD_takesSequenceEnd_12 : decode b_RD_takesSequenceEnd 12 = .ok (.ifCond .eq 13, 3) := by decide +kernel
theorem d_RD_takesSequenceEnd_15 : decode b_RD_takesSequenceEnd 15 = .ok (.aload_n 0, 1) := by decide +kernel
theorem d_RD_takesSequenceEnd_16 : decode b_RD_takesSequenceEnd 16 = .ok (.getfield 28, 3) := by decide +kernel
theorem d_RD_takesSequenceEnd_19 : decode b_RD_takesSequenceEnd 19 = .ok (.iconst 1, 1) := by decide +kernel
theorem d_RD_takesSequenceEnd_20 : decode b_RD_takesSequenceEnd 20 = .ok (.if_icmp .eq 5, 3) := by decide +kernel
theorem d_RD_takesSequenceEnd_23 : decode b_RD_takesSequenceEnd 23 = .ok (.iconst 0, 1) := by decide +kernel
theorem d_RD_takesSequenceEnd_24 : decode b_RD_takesSequenceEnd 24 = .ok (.ireturn, 1) := by decide +kernel
theorem d_RD_takesSequenceEnd_25 : decode b_RD_takesSequenceEnd 25 = .ok (.aload_n 1, 1) := by decide +kernel
theorem d_RD_takesSequenceEnd_26 : decode b_RD_takesSequenceEnd 26 = .ok (.aload_n 0, 1) := by decide +kernel
theorem d_RD_takesSequenceEnd_27 : decode b_RD_takesSequenceEnd 27 = .ok (.getfield 21, 3) := by decide +kernel
theorem d_RD_takesSequenceEnd_30 : decode b_RD_takesSequenceEnd 30 = .ok (.aload_n 0, 1) := by decide +kernel
theorem d_RD_takesSequenceEnd_31 : decode b_RD_takesSequenceEnd 31 = .ok (.getfield 12, 3) := by decide +kernel
theorem d_RD_takesSequenceEnd_34 : decode b_RD_takesSequenceEnd 34 = .ok (.getfield 63, 3) := by decide +kernel
theorem d_RD_takesSequenceEnd_37 : decode b_RD_takesSequenceEnd 37 = .ok (.invokevirtual 117, 3) := by decide +kernel
theorem d_RD_takesSequenceEnd_40 : decode b_RD_takesSequenceEnd 40 = .ok (.aload_n 0, 1) := by decide +kernel
theorem d_RD_takesSequenceEnd_41 : decode b_RD_takesSequenceEnd 41 = .ok (.aload_n 1, 1) := by decide +kernel
theorem d_RD_takesSequenceEnd_42 : decode b_RD_takesSequenceEnd 42 = .ok (.invokevirtual 121, 3) := by decide +kernel
theorem d_RD_takesSequenceEnd_45 : decode b_RD_takesSequenceEnd 45 = .ok (.iconst 1, 1) := by decide +kernel
theorem d_RD_takesSequenceEnd_46 : decode b_RD_takesSequenceEnd 46 = .ok (.ireturn, 1) := by decide +kernel
abbrev b_RD_takesSemicolon : ByteArray := prog_8_method_9_code
abbrev y_RD_takesSemicolon : MethodName := ⟨R_RD, "takesSemicolon", "()Z"⟩
abbrev w_RD_takesSemicolon : List Cond := (.code ⟨"TextTerms$Reader", "takesSemicolon", "()Z"⟩ prog_8_method_9_code 1 (Option.some Jvm.ClassFile.FieldType.boolean)) :: tt_T
theorem hv_RD_takesSemicolon : y_RD_takesSemicolon.cls = R_RD ∧ y_RD_takesSemicolon.cls ≠ "java/lang/invoke/MethodHandle" ∧ y_RD_takesSemicolon.cls ≠ "java/lang/invoke/VarHandle" ∧ (parseMethodDescriptor y_RD_takesSemicolon.desc).map (fun d => d.parameters.length) = some 0 := by decide +kernel
theorem d_RD_takesSemicolon_0 : decode b_RD_takesSemicolon 0 = .ok (.aload_n 0, 1) := by decide +kernel
theorem d_RD_takesSemicolon_1 : decode b_RD_takesSemicolon 1 = .ok (.getfield 21, 3) := by decide +kernel
theorem d_RD_takesSemicolon_4 : decode b_RD_takesSemicolon 4 = .ok (.iconst (-1), 1) := by decide +kernel
theorem d_RD_takesSemicolon_5 : decode b_RD_takesSemicolon 5 = .ok (.if_icmp .eq 11, 3) := by decide +kernel
theorem d_RD_takesSemicolon_8 : decode b_RD_takesSemicolon 8 = .ok (.aload_n 0, 1) := by decide +kernel
theorem d_RD_takesSemicolon_9 : decode b_RD_takesSemicolon 9 = .ok (.getfield 28, 3) := by decide +kernel
theorem d_RD_takesSemicolon_12 : decode b_RD_takesSemicolon 12 = .ok (.iconst 1, 1) := by decide +kernel
theorem d_RD_takesSemicolon_13 : decode b_RD_takesSemicolon 13 = .ok (.if_icmp .eq 5, 3) := by decide +kernel
theorem d_RD_takesSemicolon_16 : decode b_RD_takesSemicolon 16 = .ok (.iconst 0, 1) := by decide +kernel
theorem d_RD_takesSemicolon_17 : decode b_RD_takesSemicolon 17 = .ok (.ireturn, 1) := by decide +kernel
theorem d_RD_takesSemicolon_18 : decode b_RD_takesSemicolon 18 = .ok (.aload_n 0, 1) := by decide +kernel
theorem d_RD_takesSemicolon_19 : decode b_RD_takesSemicolon 19 = .ok (.iconst 0, 1) := by decide +kernel
theorem d_RD_takesSemicolon_20 : decode b_RD_takesSemicolon 20 = .ok (.putfield 28, 3) := by decide +kernel
theorem d_RD_takesSemicolon_23 : decode b_RD_takesSemicolon 23 = .ok (.iconst 1, 1) := by decide +kernel
theorem d_RD_takesSemicolon_24 : decode b_RD_takesSemicolon 24 = .ok (.ireturn, 1) := by decide +kernel
abbrev b_RD_takesOpening : ByteArray := prog_8_method_10_code
abbrev y_RD_takesOpening : MethodName := ⟨R_RD, "takesOpening", "()Z"⟩
abbrev w_RD_takesOpening : List Cond := (.code ⟨"TextTerms$Reader", "takesOpening", "()Z"⟩ prog_8_method_10_code 1 (Option.some Jvm.ClassFile.FieldType.boolean)) :: tt_T
theorem hv_RD_takesOpening : y_RD_takesOpening.cls = R_RD ∧ y_RD_takesOpening.cls ≠ "java/lang/invoke/MethodHandle" ∧ y_RD_takesOpening.cls ≠ "java/lang/invoke/VarHandle" ∧ (parseMethodDescriptor y_RD_takesOpening.desc).map (fun d => d.parameters.length) = some 0 := by decide +kernel
theorem d_RD_takesOpening_0 : decode b_RD_takesOpening 0 = .ok (.aload_n 0, 1) := by decide +kernel
theorem d_RD_takesOpening_1 : decode b_RD_takesOpening 1 = .ok (.invokevirtual 98, 3) := by decide +kernel
theorem d_RD_takesOpening_4 : decode b_RD_takesOpening 4 = .ok (.ifCond .ne 5, 3) := by decide +kernel
theorem d_RD_takesOpening_7 : decode b_RD_takesOpening 7 = .ok (.iconst 0, 1) := by decide +kernel
theorem d_RD_takesOpening_8 : decode b_RD_takesOpening 8 = .ok (.ireturn, 1) := by decide +kernel
theorem d_RD_takesOpening_9 : decode b_RD_takesOpening 9 = .ok (.aload_n 0, 1) := by decide +kernel
theorem d_RD_takesOpening_10 : decode b_RD_takesOpening 10 = .ok (.iconst 2, 1) := by decide +kernel
theorem d_RD_takesOpening_11 : decode b_RD_takesOpening 11 = .ok (.putfield 28, 3) := by decide +kernel
theorem d_RD_takesOpening_14 : decode b_RD_takesOpening 14 = .ok (.iconst 1, 1) := by decide +kernel
theorem d_RD_takesOpening_15 : decode b_RD_takesOpening 15 = .ok (.ireturn, 1) := by decide +kernel
abbrev b_RD_takesClosing : ByteArray := prog_8_method_11_code
abbrev y_RD_takesClosing : MethodName := ⟨R_RD, "takesClosing", "(LTextTerms$Terms;)Z"⟩
abbrev w_RD_takesClosing : List Cond := (.code ⟨"TextTerms$Reader", "takesClosing", "(LTextTerms$Terms;)Z"⟩ prog_8_method_11_code 2 (Option.some Jvm.ClassFile.FieldType.boolean)) :: tt_T
theorem hv_RD_takesClosing : y_RD_takesClosing.cls = R_RD ∧ y_RD_takesClosing.cls ≠ "java/lang/invoke/MethodHandle" ∧ y_RD_takesClosing.cls ≠ "java/lang/invoke/VarHandle" ∧ (parseMethodDescriptor y_RD_takesClosing.desc).map (fun d => d.parameters.length) = some 1 := by decide +kernel
theorem d_RD_takesClosing_0 : decode b_RD_takesClosing 0 = .ok (.aload_n 0, 1) := by decide +kernel
theorem d_RD_takesClosing_1 : decode b_RD_takesClosing 1 = .ok (.invokevirtual 98, 3) := by decide +kernel
theorem d_RD_takesClosing_4 : decode b_RD_takesClosing 4 = .ok (.ifCond .eq 11, 3) := by decide +kernel
theorem d_RD_takesClosing_7 : decode b_RD_takesClosing 7 = .ok (.aload_n 0, 1) := by decide +kernel
theorem d_RD_takesClosing_8 : decode b_RD_takesClosing 8 = .ok (.aload_n 1, 1) := by decide +kernel
theorem d_RD_takesClosing_9 : decode b_RD_takesClosing 9 = .ok (.invokevirtual 124, 3) := by decide +kernel
theorem d_RD_takesClosing_12 : decode b_RD_takesClosing 12 = .ok (.ifCond .ne 5, 3) := by decide +kernel
theorem d_RD_takesClosing_15 : decode b_RD_takesClosing 15 = .ok (.iconst 0, 1) := by decide +kernel
theorem d_RD_takesClosing_16 : decode b_RD_takesClosing 16 = .ok (.ireturn, 1) := by decide +kernel
theorem d_RD_takesClosing_17 : decode b_RD_takesClosing 17 = .ok (.aload_n 0, 1) := by decide +kernel
theorem d_RD_takesClosing_18 : decode b_RD_takesClosing 18 = .ok (.aload_n 1, 1) := by decide +kernel
theorem d_RD_takesClosing_19 : decode b_RD_takesClosing 19 = .ok (.invokevirtual 121, 3) := by decide +kernel
theorem d_RD_takesClosing_22 : decode b_RD_takesClosing 22 = .ok (.iconst 1, 1) := by decide +kernel
theorem d_RD_takesClosing_23 : decode b_RD_takesClosing 23 = .ok (.ireturn, 1) := by decide +kernel
abbrev b_RD_isInApplication : ByteArray := prog_8_method_12_code
abbrev y_RD_isInApplication : MethodName := ⟨R_RD, "isInApplication", "()Z"⟩
abbrev w_RD_isInApplication : List Cond := (.code ⟨"TextTerms$Reader", "isInApplication", "()Z"⟩ prog_8_method_12_code 1 (Option.some Jvm.ClassFile.FieldType.boolean)) :: tt_T
theorem hv_RD_isInApplication : y_RD_isInApplication.cls = R_RD ∧ y_RD_isInApplication.cls ≠ "java/lang/invoke/MethodHandle" ∧ y_RD_isInApplication.cls ≠ "java/lang/invoke/VarHandle" ∧ (parseMethodDescriptor y_RD_isInApplication.desc).map (fun d => d.parameters.length) = some 0 := by decide +kernel
theorem d_RD_isInApplication_0 : decode b_RD_isInApplication 0 = .ok (.aload_n 0, 1) := by decide +kernel
theorem d_RD_isInApplication_1 : decode b_RD_isInApplication 1 = .ok (.getfield 28, 3) := by decide +kernel
theorem d_RD_isInApplication_4 : decode b_RD_isInApplication 4 = .ok (.iconst 3, 1) := by decide +kernel
theorem d_RD_isInApplication_5 : decode b_RD_isInApplication 5 = .ok (.if_icmp .eq 11, 3) := by decide +kernel
theorem d_RD_isInApplication_8 : decode b_RD_isInApplication 8 = .ok (.aload_n 0, 1) := by decide +kernel
theorem d_RD_isInApplication_9 : decode b_RD_isInApplication 9 = .ok (.getfield 28, 3) := by decide +kernel
theorem d_RD_isInApplication_12 : decode b_RD_isInApplication 12 = .ok (.iconst 4, 1) := by decide +kernel
theorem d_RD_isInApplication_13 : decode b_RD_isInApplication 13 = .ok (.if_icmp .ne 7, 3) := by decide +kernel
theorem d_RD_isInApplication_16 : decode b_RD_isInApplication 16 = .ok (.iconst 1, 1) := by decide +kernel
theorem d_RD_isInApplication_17 : decode b_RD_isInApplication 17 = .ok (.goto 4, 3) := by decide +kernel
theorem d_RD_isInApplication_20 : decode b_RD_isInApplication 20 = .ok (.iconst 0, 1) := by decide +kernel
theorem d_RD_isInApplication_21 : decode b_RD_isInApplication 21 = .ok (.ireturn, 1) := by decide +kernel
abbrev b_RD_isInParentheses : ByteArray := prog_8_method_13_code
abbrev y_RD_isInParentheses : MethodName := ⟨R_RD, "isInParentheses", "(LTextTerms$Terms;)Z"⟩
abbrev w_RD_isInParentheses : List Cond := (.code ⟨"TextTerms$Reader", "isInParentheses", "(LTextTerms$Terms;)Z"⟩ prog_8_method_13_code 2 (Option.some Jvm.ClassFile.FieldType.boolean)) :: tt_T
theorem hv_RD_isInParentheses : y_RD_isInParentheses.cls = R_RD ∧ y_RD_isInParentheses.cls ≠ "java/lang/invoke/MethodHandle" ∧ y_RD_isInParentheses.cls ≠ "java/lang/invoke/VarHandle" ∧ (parseMethodDescriptor y_RD_isInParentheses.desc).map (fun d => d.parameters.length) = some 1 := by decide +kernel
theorem d_RD_isInParentheses_0 : decode b_RD_isInParentheses 0 = .ok (.aload_n 1, 1) := by decide +kernel
theorem d_RD_isInParentheses_1 : decode b_RD_isInParentheses 1 = .ok (.aload_n 1, 1) := by decide +kernel
theorem d_RD_isInParentheses_2 : decode b_RD_isInParentheses 2 = .ok (.getfield 127, 3) := by decide +kernel
theorem d_RD_isInParentheses_5 : decode b_RD_isInParentheses 5 = .ok (.aload_n 1, 1) := by decide +kernel
theorem d_RD_isInParentheses_6 : decode b_RD_isInParentheses 6 = .ok (.aload_n 1, 1) := by decide +kernel
theorem d_RD_isInParentheses_7 : decode b_RD_isInParentheses 7 = .ok (.getfield 131, 3) := by decide +kernel
theorem d_RD_isInParentheses_10 : decode b_RD_isInParentheses 10 = .ok (.aload_n 0, 1) := by decide +kernel
theorem d_RD_isInParentheses_11 : decode b_RD_isInParentheses 11 = .ok (.getfield 21, 3) := by decide +kernel
theorem d_RD_isInParentheses_14 : decode b_RD_isInParentheses 14 = .ok (.invokevirtual 134, 3) := by decide +kernel
theorem d_RD_isInParentheses_17 : decode b_RD_isInParentheses 17 = .ok (.invokevirtual 134, 3) := by decide +kernel
theorem d_RD_isInParentheses_20 : decode b_RD_isInParentheses 20 = .ok (.iconst 4, 1) := by decide +kernel
theorem d_RD_isInParentheses_21 : decode b_RD_isInParentheses 21 = .ok (.if_icmp .ne 7, 3) := by decide +kernel
theorem d_RD_isInParentheses_24 : decode b_RD_isInParentheses 24 = .ok (.iconst 1, 1) := by decide +kernel
theorem d_RD_isInParentheses_25 : decode b_RD_isInParentheses 25 = .ok (.goto 4, 3) := by decide +kernel
theorem d_RD_isInParentheses_28 : decode b_RD_isInParentheses 28 = .ok (.iconst 0, 1) := by decide +kernel
theorem d_RD_isInParentheses_29 : decode b_RD_isInParentheses 29 = .ok (.ireturn, 1) := by decide +kernel
abbrev b_RD_closeItem : ByteArray := prog_8_method_14_code
abbrev y_RD_closeItem : MethodName := ⟨R_RD, "closeItem", "(LTextTerms$Terms;)V"⟩
abbrev w_RD_closeItem : List Cond := (.code ⟨"TextTerms$Reader", "closeItem", "(LTextTerms$Terms;)V"⟩ prog_8_method_14_code 4 (Option.none : Option Jvm.ClassFile.FieldType)) :: tt_T
theorem hv_RD_closeItem : y_RD_closeItem.cls = R_RD ∧ y_RD_closeItem.cls ≠ "java/lang/invoke/MethodHandle" ∧ y_RD_closeItem.cls ≠ "java/lang/invoke/VarHandle" ∧ (parseMethodDescriptor y_RD_closeItem.desc).map (fun d => d.parameters.length) = some 1 := by decide +kernel
theorem d_RD_closeItem_0 : decode b_RD_closeItem 0 = .ok (.aload_n 0, 1) := by decide +kernel
theorem d_RD_closeItem_1 : decode b_RD_closeItem 1 = .ok (.getfield 12, 3) := by decide +kernel
theorem d_RD_closeItem_4 : decode b_RD_closeItem 4 = .ok (.getfield 50, 3) := by decide +kernel
theorem d_RD_closeItem_7 : decode b_RD_closeItem 7 = .ok (.istore_n 2, 1) := by decide +kernel
theorem d_RD_closeItem_8 : decode b_RD_closeItem 8 = .ok (.iload_n 2, 1) := by decide +kernel
theorem d_RD_closeItem_9 : decode b_RD_closeItem 9 = .ok (.bipush 59, 2) := by decide +kernel
theorem d_RD_closeItem_11 : decode b_RD_closeItem 11 = .ok (.if_icmp .eq 15, 3) := by decide +kernel
theorem d_RD_closeItem_14 : decode b_RD_closeItem 14 = .ok (.iload_n 2, 1) := by decide +kernel
theorem d_RD_closeItem_15 : decode b_RD_closeItem 15 = .ok (.bipush 125, 2) := by decide +kernel
theorem d_RD_closeItem_17 : decode b_RD_closeItem 17 = .ok (.if_icmp .eq 9, 3) := by decide +kernel
theorem d_RD_closeItem_20 : decode b_RD_closeItem 20 = .ok (.iload_n 2, 1) := by decide +kernel
theorem d_RD_closeItem_21 : decode b_RD_closeItem 21 = .ok (.bipush 8, 2) := by decide +kernel
theorem d_RD_closeItem_23 : decode b_RD_closeItem 23 = .ok (.if_icmp .ne 7, 3) := by decide +kernel
theorem d_RD_closeItem_26 : decode b_RD_closeItem 26 = .ok (.iconst 1, 1) := by decide +kernel
theorem d_RD_closeItem_27 : decode b_RD_closeItem 27 = .ok (.goto 4, 3) := by decide +kernel
theorem d_RD_closeItem_30 : decode b_RD_closeItem 30 = .ok (.iconst 0, 1) := by decide +kernel
theorem d_RD_closeItem_31 : decode b_RD_closeItem 31 = .ok (.istore_n 3, 1) := by decide +kernel
theorem d_RD_closeItem_32 : decode b_RD_closeItem 32 = .ok (.iload_n 3, 1) := by decide +kernel
theorem d_RD_closeItem_33 : decode b_RD_closeItem 33 = .ok (.ifCond .eq 23, 3) := by decide +kernel
theorem d_RD_closeItem_36 : decode b_RD_closeItem 36 = .ok (.aload_n 0, 1) := by decide +kernel
theorem d_RD_closeItem_37 : decode b_RD_closeItem 37 = .ok (.invokevirtual 98, 3) := by decide +kernel
theorem d_RD_closeItem_40 : decode b_RD_closeItem 40 = .ok (.ifCond .eq 16, 3) := by decide +kernel
theorem d_RD_closeItem_43 : decode b_RD_closeItem 43 = .ok (.aload_n 0, 1) := by decide +kernel
theorem d_RD_closeItem_44 : decode b_RD_closeItem 44 = .ok (.aload_n 1, 1) := by decide +kernel
theorem d_RD_closeItem_45 : decode b_RD_closeItem 45 = .ok (.invokevirtual 124, 3) := by decide +kernel
theorem d_RD_closeItem_48 : decode b_RD_closeItem 48 = .ok (.ifCond .ne 8, 3) := by decide +kernel
theorem d_RD_closeItem_51 : decode b_RD_closeItem 51 = .ok (.aload_n 0, 1) := by decide +kernel
theorem d_RD_closeItem_52 : decode b_RD_closeItem 52 = .ok (.aload_n 1, 1) := by decide +kernel
theorem d_RD_closeItem_53 : decode b_RD_closeItem 53 = .ok (.invokevirtual 121, 3) := by decide +kernel
theorem d_RD_closeItem_56 : decode b_RD_closeItem 56 = .ok (.return_, 1) := by decide +kernel
abbrev b_RD_addTerm : ByteArray := prog_8_method_15_code
abbrev y_RD_addTerm : MethodName := ⟨R_RD, "addTerm", "(LTextTerms$Terms;I)I"⟩
abbrev w_RD_addTerm : List Cond := (.code ⟨"TextTerms$Reader", "addTerm", "(LTextTerms$Terms;I)I"⟩ prog_8_method_15_code 3 (Option.some Jvm.ClassFile.FieldType.int)) :: tt_T
theorem hv_RD_addTerm : y_RD_addTerm.cls = R_RD ∧ y_RD_addTerm.cls ≠ "java/lang/invoke/MethodHandle" ∧ y_RD_addTerm.cls ≠ "java/lang/invoke/VarHandle" ∧ (parseMethodDescriptor y_RD_addTerm.desc).map (fun d => d.parameters.length) = some 2 := by decide +kernel
theorem d_RD_addTerm_0 : decode b_RD_addTerm 0 = .ok (.aload_n 0, 1) := by decide +kernel
theorem d_RD_addTerm_1 : decode b_RD_addTerm 1 = .ok (.getfield 25, 3) := by decide +kernel
theorem d_RD_addTerm_4 : decode b_RD_addTerm 4 = .ok (.bipush 60, 2) := by decide +kernel
theorem d_RD_addTerm_6 : decode b_RD_addTerm 6 = .ok (.if_icmp .lt 5, 3) := by decide +kernel
theorem d_RD_addTerm_9 : decode b_RD_addTerm 9 = .ok (.iconst (-1), 1) := by decide +kernel
theorem d_RD_addTerm_10 : decode b_RD_addTerm 10 = .ok (.ireturn, 1) := by decide +kernel
theorem d_RD_addTerm_11 : decode b_RD_addTerm 11 = .ok (.aload_n 1, 1) := by decide +kernel
theorem d_RD_addTerm_12 : decode b_RD_addTerm 12 = .ok (.iload_n 2, 1) := by decide +kernel
theorem d_RD_addTerm_13 : decode b_RD_addTerm 13 = .ok (.aload_n 0, 1) := by decide +kernel
theorem d_RD_addTerm_14 : decode b_RD_addTerm 14 = .ok (.getfield 21, 3) := by decide +kernel
theorem d_RD_addTerm_17 : decode b_RD_addTerm 17 = .ok (.aload_n 0, 1) := by decide +kernel
theorem d_RD_addTerm_18 : decode b_RD_addTerm 18 = .ok (.getfield 12, 3) := by decide +kernel
theorem d_RD_addTerm_21 : decode b_RD_addTerm 21 = .ok (.getfield 57, 3) := by decide +kernel
theorem d_RD_addTerm_24 : decode b_RD_addTerm 24 = .ok (.aload_n 0, 1) := by decide +kernel
theorem d_RD_addTerm_25 : decode b_RD_addTerm 25 = .ok (.getfield 12, 3) := by decide +kernel
theorem d_RD_addTerm_28 : decode b_RD_addTerm 28 = .ok (.getfield 63, 3) := by decide +kernel
theorem d_RD_addTerm_31 : decode b_RD_addTerm 31 = .ok (.invokevirtual 138, 3) := by decide +kernel
theorem d_RD_addTerm_34 : decode b_RD_addTerm 34 = .ok (.ireturn, 1) := by decide +kernel
abbrev b_RD_opens : ByteArray := prog_8_method_16_code
abbrev y_RD_opens : MethodName := ⟨R_RD, "opens", "(LTextTerms$Terms;II)Z"⟩
abbrev w_RD_opens : List Cond := (.code ⟨"TextTerms$Reader", "opens", "(LTextTerms$Terms;II)Z"⟩ prog_8_method_16_code 5 (Option.some Jvm.ClassFile.FieldType.boolean)) :: tt_T
theorem hv_RD_opens : y_RD_opens.cls = R_RD ∧ y_RD_opens.cls ≠ "java/lang/invoke/MethodHandle" ∧ y_RD_opens.cls ≠ "java/lang/invoke/VarHandle" ∧ (parseMethodDescriptor y_RD_opens.desc).map (fun d => d.parameters.length) = some 3 := by decide +kernel
theorem d_RD_opens_0 : decode b_RD_opens 0 = .ok (.aload_n 0, 1) := by decide +kernel
theorem d_RD_opens_1 : decode b_RD_opens 1 = .ok (.aload_n 1, 1) := by decide +kernel
theorem d_RD_opens_2 : decode b_RD_opens 2 = .ok (.iload_n 2, 1) := by decide +kernel
theorem d_RD_opens_3 : decode b_RD_opens 3 = .ok (.invokevirtual 101, 3) := by decide +kernel
theorem d_RD_opens_6 : decode b_RD_opens 6 = .ok (.istore 4, 2) := by decide +kernel
theorem d_RD_opens_8 : decode b_RD_opens 8 = .ok (.iload 4, 2) := by decide +kernel
theorem d_RD_opens_10 : decode b_RD_opens 10 = .ok (.iconst (-1), 1) := by decide +kernel
theorem d_RD_opens_11 : decode b_RD_opens 11 = .ok (.if_icmp .ne 5, 3) := by decide +kernel
theorem d_RD_opens_14 : decode b_RD_opens 14 = .ok (.iconst 0, 1) := by decide +kernel
theorem d_RD_opens_15 : decode b_RD_opens 15 = .ok (.ireturn, 1) := by decide +kernel
theorem d_RD_opens_16 : decode b_RD_opens 16 = .ok (.aload_n 0, 1) := by decide +kernel
theorem d_RD_opens_17 : decode b_RD_opens 17 = .ok (.iload 4, 2) := by decide +kernel
theorem d_RD_opens_19 : decode b_RD_opens 19 = .ok (.putfield 21, 3) := by decide +kernel
theorem d_RD_opens_22 : decode b_RD_opens 22 = .ok (.aload_n 0, 1) := by decide +kernel
theorem d_RD_opens_23 : decode b_RD_opens 23 = .ok (.dup, 1) := by decide +kernel
theorem d_RD_opens_24 : decode b_RD_opens 24 = .ok (.getfield 25, 3) := by decide +kernel
theorem d_RD_opens_27 : decode b_RD_opens 27 = .ok (.iconst 1, 1) := by decide +kernel
theorem d_RD_opens_28 : decode b_RD_opens 28 = .ok (.iadd, 1) := by decide +kernel
theorem d_RD_opens_29 : decode b_RD_opens 29 = .ok (.putfield 25, 3) := by decide +kernel
theorem d_RD_opens_32 : decode b_RD_opens 32 = .ok (.aload_n 0, 1) := by decide +kernel
theorem d_RD_opens_33 : decode b_RD_opens 33 = .ok (.iload_n 3, 1) := by decide +kernel
theorem d_RD_opens_34 : decode b_RD_opens 34 = .ok (.putfield 28, 3) := by decide +kernel
theorem d_RD_opens_37 : decode b_RD_opens 37 = .ok (.iconst 1, 1) := by decide +kernel
theorem d_RD_opens_38 : decode b_RD_opens 38 = .ok (.ireturn, 1) := by decide +kernel
abbrev b_RD_close : ByteArray := prog_8_method_17_code
abbrev y_RD_close : MethodName := ⟨R_RD, "close", "(LTextTerms$Terms;)V"⟩
abbrev w_RD_close : List Cond := (.code ⟨"TextTerms$Reader", "close", "(LTextTerms$Terms;)V"⟩ prog_8_method_17_code 2 (Option.none : Option Jvm.ClassFile.FieldType)) :: tt_T
theorem hv_RD_close : y_RD_close.cls = R_RD ∧ y_RD_close.cls ≠ "java/lang/invoke/MethodHandle" ∧ y_RD_close.cls ≠ "java/lang/invoke/VarHandle" ∧ (parseMethodDescriptor y_RD_close.desc).map (fun d => d.parameters.length) = some 1 := by decide +kernel
theorem d_RD_close_0 : decode b_RD_close 0 = .ok (.aload_n 0, 1) := by decide +kernel
theorem d_RD_close_1 : decode b_RD_close 1 = .ok (.aload_n 1, 1) := by decide +kernel
theorem d_RD_close_2 : decode b_RD_close 2 = .ok (.aload_n 1, 1) := by decide +kernel
theorem d_RD_close_3 : decode b_RD_close 3 = .ok (.getfield 131, 3) := by decide +kernel
theorem d_RD_close_6 : decode b_RD_close 6 = .ok (.aload_n 0, 1) := by decide +kernel
theorem d_RD_close_7 : decode b_RD_close 7 = .ok (.getfield 21, 3) := by decide +kernel
theorem d_RD_close_10 : decode b_RD_close 10 = .ok (.invokevirtual 134, 3) := by decide +kernel
theorem d_RD_close_13 : decode b_RD_close 13 = .ok (.putfield 21, 3) := by decide +kernel
theorem d_RD_close_16 : decode b_RD_close 16 = .ok (.aload_n 0, 1) := by decide +kernel
theorem d_RD_close_17 : decode b_RD_close 17 = .ok (.dup, 1) := by decide +kernel
theorem d_RD_close_18 : decode b_RD_close 18 = .ok (.getfield 25, 3) := by decide +kernel
theorem d_RD_close_21 : decode b_RD_close 21 = .ok (.iconst 1, 1) := by decide +kernel
theorem d_RD_close_22 : decode b_RD_close 22 = .ok (.isub, 1) := by decide +kernel
theorem d_RD_close_23 : decode b_RD_close 23 = .ok (.putfield 25, 3) := by decide +kernel
theorem d_RD_close_26 : decode b_RD_close 26 = .ok (.aload_n 0, 1) := by decide +kernel
theorem d_RD_close_27 : decode b_RD_close 27 = .ok (.aload_n 0, 1) := by decide +kernel
theorem d_RD_close_28 : decode b_RD_close 28 = .ok (.aload_n 1, 1) := by decide +kernel
theorem d_RD_close_29 : decode b_RD_close 29 = .ok (.invokevirtual 105, 3) := by decide +kernel
theorem d_RD_close_32 : decode b_RD_close 32 = .ok (.putfield 28, 3) := by decide +kernel
theorem d_RD_close_35 : decode b_RD_close 35 = .ok (.return_, 1) := by decide +kernel
abbrev b_RD_dueBehindTerm : ByteArray := prog_8_method_18_code
abbrev y_RD_dueBehindTerm : MethodName := ⟨R_RD, "dueBehindTerm", "(LTextTerms$Terms;)I"⟩
abbrev w_RD_dueBehindTerm : List Cond := (.code ⟨"TextTerms$Reader", "dueBehindTerm", "(LTextTerms$Terms;)I"⟩ prog_8_method_18_code 2 (Option.some Jvm.ClassFile.FieldType.int)) :: tt_T
theorem hv_RD_dueBehindTerm : y_RD_dueBehindTerm.cls = R_RD ∧ y_RD_dueBehindTerm.cls ≠ "java/lang/invoke/MethodHandle" ∧ y_RD_dueBehindTerm.cls ≠ "java/lang/invoke/VarHandle" ∧ (parseMethodDescriptor y_RD_dueBehindTerm.desc).map (fun d => d.parameters.length) = some 1 := by decide +kernel
theorem d_RD_dueBehindTerm_0 : decode b_RD_dueBehindTerm 0 = .ok (.aload_n 1, 1) := by decide +kernel
theorem d_RD_dueBehindTerm_1 : decode b_RD_dueBehindTerm 1 = .ok (.aload_n 1, 1) := by decide +kernel
theorem d_RD_dueBehindTerm_2 : decode b_RD_dueBehindTerm 2 = .ok (.getfield 127, 3) := by decide +kernel
theorem d_RD_dueBehindTerm_5 : decode b_RD_dueBehindTerm 5 = .ok (.aload_n 0, 1) := by decide +kernel
theorem d_RD_dueBehindTerm_6 : decode b_RD_dueBehindTerm 6 = .ok (.getfield 21, 3) := by decide +kernel
theorem d_RD_dueBehindTerm_9 : decode b_RD_dueBehindTerm 9 = .ok (.invokevirtual 134, 3) := by decide +kernel
theorem d_RD_dueBehindTerm_12 : decode b_RD_dueBehindTerm 12 = .ok (.iconst 4, 1) := by decide +kernel
theorem d_RD_dueBehindTerm_13 : decode b_RD_dueBehindTerm 13 = .ok (.if_icmp .ne 7, 3) := by decide +kernel
theorem d_RD_dueBehindTerm_16 : decode b_RD_dueBehindTerm 16 = .ok (.iconst 4, 1) := by decide +kernel
theorem d_RD_dueBehindTerm_17 : decode b_RD_dueBehindTerm 17 = .ok (.goto 4, 3) := by decide +kernel
theorem d_RD_dueBehindTerm_20 : decode b_RD_dueBehindTerm 20 = .ok (.iconst 1, 1) := by decide +kernel
theorem d_RD_dueBehindTerm_21 : decode b_RD_dueBehindTerm 21 = .ok (.ireturn, 1) := by decide +kernel
