abbrev b_JS_length : ByteArray := prog_18_method_54_code
abbrev y_JS_length : MethodName := ⟨R_JS, "length", "()I"⟩
abbrev w_JS_length : List Cond := (.code ⟨"java/lang/String", "length", "()I"⟩ prog_18_method_54_code 1 (Option.some Jvm.ClassFile.FieldType.int)) :: tt_T
theorem hv_JS_length : y_JS_length.cls = R_JS ∧ y_JS_length.cls ≠ "java/lang/invoke/MethodHandle" ∧ y_JS_length.cls ≠ "java/lang/invoke/VarHandle" ∧ (parseMethodDescriptor y_JS_length.desc).map (fun d => d.parameters.length) = some 0 := by decide +kernel
theorem d_JS_length_0 : decode b_JS_length 0 = .ok (.aload_n 0, 1) := by decide +kernel
theorem d_JS_length_1 : decode b_JS_length 1 = .ok (.getfield 9, 3) := by decide +kernel
theorem d_JS_length_4 : decode b_JS_length 4 = .ok (.arraylength, 1) := by decide +kernel
theorem d_JS_length_5 : decode b_JS_length 5 = .ok (.aload_n 0, 1) := by decide +kernel
theorem d_JS_length_6 : decode b_JS_length 6 = .ok (.invokevirtual 335, 3) := by decide +kernel
theorem d_JS_length_9 : decode b_JS_length 9 = .ok (.ishr, 1) := by decide +kernel
theorem d_JS_length_10 : decode b_JS_length 10 = .ok (.ireturn, 1) := by decide +kernel
abbrev b_JS_coder : ByteArray := prog_18_method_152_code
abbrev y_JS_coder : MethodName := ⟨R_JS, "coder", "()B"⟩
abbrev w_JS_coder : List Cond := (.code ⟨"java/lang/String", "coder", "()B"⟩ prog_18_method_152_code 1 (Option.some Jvm.ClassFile.FieldType.byte)) :: tt_T
theorem hv_JS_coder : y_JS_coder.cls = R_JS ∧ y_JS_coder.cls ≠ "java/lang/invoke/MethodHandle" ∧ y_JS_coder.cls ≠ "java/lang/invoke/VarHandle" ∧ (parseMethodDescriptor y_JS_coder.desc).map (fun d => d.parameters.length) = some 0 := by decide +kernel
theorem d_JS_coder_0 : decode b_JS_coder 0 = .ok (.getstatic 38, 3) := by decide +kernel
theorem d_JS_coder_3 : decode b_JS_coder 3 = .ok (.ifCond .eq 10, 3) := by decide +kernel
theorem d_JS_coder_6 : decode b_JS_coder 6 = .ok (.aload_n 0, 1) := by decide +kernel
theorem d_JS_coder_7 : decode b_JS_coder 7 = .ok (.getfield 15, 3) := by decide +kernel
theorem d_JS_coder_10 : decode b_JS_coder 10 = .ok (.goto 4, 3) := by decide +kernel
theorem d_JS_coder_13 : decode b_JS_coder 13 = .ok (.iconst 1, 1) := by decide +kernel
theorem d_JS_coder_14 : decode b_JS_coder 14 = .ok (.ireturn, 1) := by decide +kernel
abbrev b_JS_charAt : ByteArray := prog_18_method_56_code
abbrev y_JS_charAt : MethodName := ⟨R_JS, "charAt", "(I)C"⟩
abbrev w_JS_charAt : List Cond := (.code ⟨"java/lang/String", "charAt", "(I)C"⟩ prog_18_method_56_code 2 (Option.some Jvm.ClassFile.FieldType.char)) :: tt_T
theorem hv_JS_charAt : y_JS_charAt.cls = R_JS ∧ y_JS_charAt.cls ≠ "java/lang/invoke/MethodHandle" ∧ y_JS_charAt.cls ≠ "java/lang/invoke/VarHandle" ∧ (parseMethodDescriptor y_JS_charAt.desc).map (fun d => d.parameters.length) = some 1 := by decide +kernel
theorem d_JS_charAt_0 : decode b_JS_charAt 0 = .ok (.aload_n 0, 1) := by decide +kernel
theorem d_JS_charAt_1 : decode b_JS_charAt 1 = .ok (.invokevirtual 492, 3) := by decide +kernel
theorem d_JS_charAt_4 : decode b_JS_charAt 4 = .ok (.ifCond .eq 12, 3) := by decide +kernel
theorem d_JS_charAt_7 : decode b_JS_charAt 7 = .ok (.aload_n 0, 1) := by decide +kernel
theorem d_JS_charAt_8 : decode b_JS_charAt 8 = .ok (.getfield 9, 3) := by decide +kernel
theorem d_JS_charAt_11 : decode b_JS_charAt 11 = .ok (.iload_n 1, 1) := by decide +kernel
theorem d_JS_charAt_12 : decode b_JS_charAt 12 = .ok (.invokestatic 495, 3) := by decide +kernel
theorem d_JS_charAt_15 : decode b_JS_charAt 15 = .ok (.ireturn, 1) := by decide +kernel
theorem d_JS_charAt_16 : decode b_JS_charAt 16 = .ok (.aload_n 0, 1) := by decide +kernel
theorem d_JS_charAt_17 : decode b_JS_charAt 17 = .ok (.getfield 9, 3) := by decide +kernel
theorem d_JS_charAt_20 : decode b_JS_charAt 20 = .ok (.iload_n 1, 1) := by decide +kernel
theorem d_JS_charAt_21 : decode b_JS_charAt 21 = .ok (.invokestatic 498, 3) := by decide +kernel
theorem d_JS_charAt_24 : decode b_JS_charAt 24 = .ok (.ireturn, 1) := by decide +kernel
abbrev b_JS_isLatin1 : ByteArray := prog_18_method_154_code
abbrev y_JS_isLatin1 : MethodName := ⟨R_JS, "isLatin1", "()Z"⟩
abbrev w_JS_isLatin1 : List Cond := (.code ⟨"java/lang/String", "isLatin1", "()Z"⟩ prog_18_method_154_code 1 (Option.some Jvm.ClassFile.FieldType.boolean)) :: tt_T
theorem hv_JS_isLatin1 : y_JS_isLatin1.cls = R_JS ∧ y_JS_isLatin1.cls ≠ "java/lang/invoke/MethodHandle" ∧ y_JS_isLatin1.cls ≠ "java/lang/invoke/VarHandle" ∧ (parseMethodDescriptor y_JS_isLatin1.desc).map (fun d => d.parameters.length) = some 0 := by decide +kernel
theorem d_JS_isLatin1_0 : decode b_JS_isLatin1 0 = .ok (.getstatic 38, 3) := by decide +kernel
theorem d_JS_isLatin1_3 : decode b_JS_isLatin1 3 = .ok (.ifCond .eq 14, 3) := by decide +kernel
theorem d_JS_isLatin1_6 : decode b_JS_isLatin1 6 = .ok (.aload_n 0, 1) := by decide +kernel
theorem d_JS_isLatin1_7 : decode b_JS_isLatin1 7 = .ok (.getfield 15, 3) := by decide +kernel
theorem d_JS_isLatin1_10 : decode b_JS_isLatin1 10 = .ok (.ifCond .ne 7, 3) := by decide +kernel
theorem d_JS_isLatin1_13 : decode b_JS_isLatin1 13 = .ok (.iconst 1, 1) := by decide +kernel
theorem d_JS_isLatin1_14 : decode b_JS_isLatin1 14 = .ok (.goto 4, 3) := by decide +kernel
theorem d_JS_isLatin1_17 : decode b_JS_isLatin1 17 = .ok (.iconst 0, 1) := by decide +kernel
theorem d_JS_isLatin1_18 : decode b_JS_isLatin1 18 = .ok (.ireturn, 1) := by decide +kernel
abbrev b_JS_checkIndex : ByteArray := prog_18_method_155_code
abbrev y_JS_checkIndex : MethodName := ⟨R_JS, "checkIndex", "(II)V"⟩
abbrev w_JS_checkIndex : List Cond := (.code ⟨"java/lang/String", "checkIndex", "(II)V"⟩ prog_18_method_155_code 2 (Option.none : Option Jvm.ClassFile.FieldType)) :: tt_T
theorem hv_JS_checkIndex : y_JS_checkIndex.cls = R_JS ∧ y_JS_checkIndex.cls ≠ "java/lang/invoke/MethodHandle" ∧ y_JS_checkIndex.cls ≠ "java/lang/invoke/VarHandle" ∧ (parseMethodDescriptor y_JS_checkIndex.desc).map (fun d => d.parameters.length) = some 2 := by decide +kernel
theorem d_JS_checkIndex_0 : decode b_JS_checkIndex 0 = .ok (.iload_n 0, 1) := by decide +kernel
theorem d_JS_checkIndex_1 : decode b_JS_checkIndex 1 = .ok (.iload_n 1, 1) := by decide +kernel
theorem d_JS_checkIndex_2 : decode b_JS_checkIndex 2 = .ok (.getstatic 1053, 3) := by decide +kernel
theorem d_JS_checkIndex_5 : decode b_JS_checkIndex 5 = .ok (.invokestatic 1059, 3) := by decide +kernel
theorem d_JS_checkIndex_8 : decode b_JS_checkIndex 8 = .ok (.pop, 1) := by decide +kernel
theorem d_JS_checkIndex_9 : decode b_JS_checkIndex 9 = .ok (.return_, 1) := by decide +kernel
