abbrev b_ME_lengthOfString : ByteArray := prog_7_method_2_code
abbrev y_ME_lengthOfString : MethodName := ⟨R_ME, "lengthOfString", "(LTextTerms$Bytes;II)I"⟩
abbrev w_ME_lengthOfString : List Cond := (.code ⟨"TextTerms$Meaning", "lengthOfString", "(LTextTerms$Bytes;II)I"⟩ prog_7_method_2_code 5 (Option.some Jvm.ClassFile.FieldType.int)) :: tt_T
theorem hv_ME_lengthOfString : y_ME_lengthOfString.cls = R_ME ∧ y_ME_lengthOfString.cls ≠ "java/lang/invoke/MethodHandle" ∧ y_ME_lengthOfString.cls ≠ "java/lang/invoke/VarHandle" ∧ (parseMethodDescriptor y_ME_lengthOfString.desc).map (fun d => d.parameters.length) = some 3 := by decide +kernel
theorem d_ME_lengthOfString_0 : decode b_ME_lengthOfString 0 = .ok (.iconst 0, 1) := by decide +kernel
theorem d_ME_lengthOfString_1 : decode b_ME_lengthOfString 1 = .ok (.istore_n 3, 1) := by decide +kernel
theorem d_ME_lengthOfString_2 : decode b_ME_lengthOfString 2 = .ok (.iload_n 1, 1) := by decide +kernel
theorem d_ME_lengthOfString_3 : decode b_ME_lengthOfString 3 = .ok (.iconst 1, 1) := by decide +kernel
theorem d_ME_lengthOfString_4 : decode b_ME_lengthOfString 4 = .ok (.iadd, 1) := by decide +kernel
theorem d_ME_lengthOfString_5 : decode b_ME_lengthOfString 5 = .ok (.istore 4, 2) := by decide +kernel
theorem d_ME_lengthOfString_7 : decode b_ME_lengthOfString 7 = .ok (.iload 4, 2) := by decide +kernel
theorem d_ME_lengthOfString_9 : decode b_ME_lengthOfString 9 = .ok (.iload_n 2, 1) := by decide +kernel
theorem d_ME_lengthOfString_10 : decode b_ME_lengthOfString 10 = .ok (.iconst 1, 1) := by decide +kernel
theorem d_ME_lengthOfString_11 : decode b_ME_lengthOfString 11 = .ok (.isub, 1) := by decide +kernel
theorem d_ME_lengthOfString_12 : decode b_ME_lengthOfString 12 = .ok (.if_icmp .ge 26, 3) := by decide +kernel
theorem d_ME_lengthOfString_15 : decode b_ME_lengthOfString 15 = .ok (.aload_n 0, 1) := by decide +kernel
theorem d_ME_lengthOfString_16 : decode b_ME_lengthOfString 16 = .ok (.iload 4, 2) := by decide +kernel
theorem d_ME_lengthOfString_18 : decode b_ME_lengthOfString 18 = .ok (.invokevirtual 9, 3) := by decide +kernel
theorem d_ME_lengthOfString_21 : decode b_ME_lengthOfString 21 = .ok (.bipush 92, 2) := by decide +kernel
theorem d_ME_lengthOfString_23 : decode b_ME_lengthOfString 23 = .ok (.if_icmp .ne 6, 3) := by decide +kernel
theorem d_ME_lengthOfString_26 : decode b_ME_lengthOfString 26 = .ok (.iinc 4 1, 3) := by decide +kernel
theorem d_ME_lengthOfString_29 : decode b_ME_lengthOfString 29 = .ok (.iinc 3 1, 3) := by decide +kernel
theorem d_ME_lengthOfString_32 : decode b_ME_lengthOfString 32 = .ok (.iinc 4 1, 3) := by decide +kernel
theorem d_ME_lengthOfString_35 : decode b_ME_lengthOfString 35 = .ok (.goto (-28), 3) := by decide +kernel
theorem d_ME_lengthOfString_38 : decode b_ME_lengthOfString 38 = .ok (.iload_n 3, 1) := by decide +kernel
theorem d_ME_lengthOfString_39 : decode b_ME_lengthOfString 39 = .ok (.ireturn, 1) := by decide +kernel
abbrev b_ME_partOfString : ByteArray := prog_7_method_3_code
abbrev y_ME_partOfString : MethodName := ⟨R_ME, "partOfString", "(LTextTerms$Bytes;III)I"⟩
abbrev w_ME_partOfString : List Cond := (.code ⟨"TextTerms$Meaning", "partOfString", "(LTextTerms$Bytes;III)I"⟩ prog_7_method_3_code 7 (Option.some Jvm.ClassFile.FieldType.int)) :: tt_T
theorem hv_ME_partOfString : y_ME_partOfString.cls = R_ME ∧ y_ME_partOfString.cls ≠ "java/lang/invoke/MethodHandle" ∧ y_ME_partOfString.cls ≠ "java/lang/invoke/VarHandle" ∧ (parseMethodDescriptor y_ME_partOfString.desc).map (fun d => d.parameters.length) = some 4 := by decide +kernel
theorem d_ME_partOfString_0 : decode b_ME_partOfString 0 = .ok (.iconst 0, 1) := by decide +kernel
theorem d_ME_partOfString_1 : decode b_ME_partOfString 1 = .ok (.istore 4, 2) := by decide +kernel
theorem d_ME_partOfString_3 : decode b_ME_partOfString 3 = .ok (.iload_n 1, 1) := by decide +kernel
theorem d_ME_partOfString_4 : decode b_ME_partOfString 4 = .ok (.iconst 1, 1) := by decide +kernel
theorem d_ME_partOfString_5 : decode b_ME_partOfString 5 = .ok (.iadd, 1) := by decide +kernel
theorem d_ME_partOfString_6 : decode b_ME_partOfString 6 = .ok (.istore 5, 2) := by decide +kernel
theorem d_ME_partOfString_8 : decode b_ME_partOfString 8 = .ok (.iload 5, 2) := by decide +kernel
theorem d_ME_partOfString_10 : decode b_ME_partOfString 10 = .ok (.iload_n 2, 1) := by decide +kernel
theorem d_ME_partOfString_11 : decode b_ME_partOfString 11 = .ok (.iconst 1, 1) := by decide +kernel
theorem d_ME_partOfString_12 : decode b_ME_partOfString 12 = .ok (.isub, 1) := by decide +kernel
theorem d_ME_partOfString_13 : decode b_ME_partOfString 13 = .ok (.if_icmp .ge 50, 3) := by decide +kernel
theorem d_ME_partOfString_16 : decode b_ME_partOfString 16 = .ok (.aload_n 0, 1) := by decide +kernel
theorem d_ME_partOfString_17 : decode b_ME_partOfString 17 = .ok (.iload 5, 2) := by decide +kernel
theorem d_ME_partOfString_19 : decode b_ME_partOfString 19 = .ok (.invokevirtual 9, 3) := by decide +kernel
theorem d_ME_partOfString_22 : decode b_ME_partOfString 22 = .ok (.istore 6, 2) := by decide +kernel
theorem d_ME_partOfString_24 : decode b_ME_partOfString 24 = .ok (.iload 6, 2) := by decide +kernel
theorem d_ME_partOfString_26 : decode b_ME_partOfString 26 = .ok (.bipush 92, 2) := by decide +kernel
theorem d_ME_partOfString_28 : decode b_ME_partOfString 28 = .ok (.if_icmp .ne 17, 3) := by decide +kernel
theorem d_ME_partOfString_31 : decode b_ME_partOfString 31 = .ok (.iinc 5 1, 3) := by decide +kernel
theorem d_ME_partOfString_34 : decode b_ME_partOfString 34 = .ok (.aload_n 0, 1) := by decide +kernel
theorem d_ME_partOfString_35 : decode b_ME_partOfString 35 = .ok (.iload 5, 2) := by decide +kernel
theorem d_ME_partOfString_37 : decode b_ME_partOfString 37 = .ok (.invokevirtual 9, 3) := by decide +kernel
theorem d_ME_partOfString_40 : decode b_ME_partOfString 40 = .ok (.invokestatic 15, 3) := by decide +kernel
theorem d_ME_partOfString_43 : decode b_ME_partOfString 43 = .ok (.istore 6, 2) := by decide +kernel
theorem d_ME_partOfString_45 : decode b_ME_partOfString 45 = .ok (.iload 4, 2) := by decide +kernel
theorem d_ME_partOfString_47 : decode b_ME_partOfString 47 = .ok (.iload_n 3, 1) := by decide +kernel
theorem d_ME_partOfString_48 : decode b_ME_partOfString 48 = .ok (.if_icmp .ne 6, 3) := by decide +kernel
theorem d_ME_partOfString_51 : decode b_ME_partOfString 51 = .ok (.iload 6, 2) := by decide +kernel
theorem d_ME_partOfString_53 : decode b_ME_partOfString 53 = .ok (.ireturn, 1) := by decide +kernel
theorem d_ME_partOfString_54 : decode b_ME_partOfString 54 = .ok (.iinc 4 1, 3) := by decide +kernel
theorem d_ME_partOfString_57 : decode b_ME_partOfString 57 = .ok (.iinc 5 1, 3) := by decide +kernel
theorem d_ME_partOfString_60 : decode b_ME_partOfString 60 = .ok (.goto (-52), 3) := by decide +kernel
theorem d_ME_partOfString_63 : decode b_ME_partOfString 63 = .ok (.iconst (-1), 1) := by decide +kernel
theorem d_ME_partOfString_64 : decode b_ME_partOfString 64 = .ok (.ireturn, 1) := by decide +kernel
abbrev b_ME_lengthOfBytes : ByteArray := prog_7_method_4_code
abbrev y_ME_lengthOfBytes : MethodName := ⟨R_ME, "lengthOfBytes", "(II)I"⟩
abbrev w_ME_lengthOfBytes : List Cond := (.code ⟨"TextTerms$Meaning", "lengthOfBytes", "(II)I"⟩ prog_7_method_4_code 2 (Option.some Jvm.ClassFile.FieldType.int)) :: tt_T
theorem hv_ME_lengthOfBytes : y_ME_lengthOfBytes.cls = R_ME ∧ y_ME_lengthOfBytes.cls ≠ "java/lang/invoke/MethodHandle" ∧ y_ME_lengthOfBytes.cls ≠ "java/lang/invoke/VarHandle" ∧ (parseMethodDescriptor y_ME_lengthOfBytes.desc).map (fun d => d.parameters.length) = some 2 := by decide +kernel
theorem d_ME_lengthOfBytes_0 : decode b_ME_lengthOfBytes 0 = .ok (.iload_n 1, 1) := by decide +kernel
theorem d_ME_lengthOfBytes_1 : decode b_ME_lengthOfBytes 1 = .ok (.iload_n 0, 1) := by decide +kernel
theorem d_ME_lengthOfBytes_2 : decode b_ME_lengthOfBytes 2 = .ok (.isub, 1) := by decide +kernel
theorem d_ME_lengthOfBytes_3 : decode b_ME_lengthOfBytes 3 = .ok (.iconst 2, 1) := by decide +kernel
theorem d_ME_lengthOfBytes_4 : decode b_ME_lengthOfBytes 4 = .ok (.idiv, 1) := by decide +kernel
theorem d_ME_lengthOfBytes_5 : decode b_ME_lengthOfBytes 5 = .ok (.iconst 1, 1) := by decide +kernel
theorem d_ME_lengthOfBytes_6 : decode b_ME_lengthOfBytes 6 = .ok (.isub, 1) := by decide +kernel
theorem d_ME_lengthOfBytes_7 : decode b_ME_lengthOfBytes 7 = .ok (.ireturn, 1) := by decide +kernel
abbrev b_ME_partOfBytes : ByteArray := prog_7_method_5_code
abbrev y_ME_partOfBytes : MethodName := ⟨R_ME, "partOfBytes", "(LTextTerms$Bytes;III)I"⟩
abbrev w_ME_partOfBytes : List Cond := (.code ⟨"TextTerms$Meaning", "partOfBytes", "(LTextTerms$Bytes;III)I"⟩ prog_7_method_5_code 7 (Option.some Jvm.ClassFile.FieldType.int)) :: tt_T
theorem hv_ME_partOfBytes : y_ME_partOfBytes.cls = R_ME ∧ y_ME_partOfBytes.cls ≠ "java/lang/invoke/MethodHandle" ∧ y_ME_partOfBytes.cls ≠ "java/lang/invoke/VarHandle" ∧ (parseMethodDescriptor y_ME_partOfBytes.desc).map (fun d => d.parameters.length) = some 4 := by decide +kernel
theorem d_ME_partOfBytes_0 : decode b_ME_partOfBytes 0 = .ok (.iload_n 3, 1) := by decide +kernel
theorem d_ME_partOfBytes_1 : decode b_ME_partOfBytes 1 = .ok (.ifCond .lt 12, 3) := by decide +kernel
theorem d_ME_partOfBytes_4 : decode b_ME_partOfBytes 4 = .ok (.iload_n 3, 1) := by decide +kernel
theorem d_ME_partOfBytes_5 : decode b_ME_partOfBytes 5 = .ok (.iload_n 1, 1) := by decide +kernel
theorem d_ME_partOfBytes_6 : decode b_ME_partOfBytes 6 = .ok (.iload_n 2, 1) := by decide +kernel
theorem d_ME_partOfBytes_7 : decode b_ME_partOfBytes 7 = .ok (.invokestatic 20, 3) := by decide +kernel
theorem d_ME_partOfBytes_10 : decode b_ME_partOfBytes 10 = .ok (.if_icmp .lt 5, 3) := by decide +kernel
theorem d_ME_partOfBytes_13 : decode b_ME_partOfBytes 13 = .ok (.iconst (-1), 1) := by decide +kernel
theorem d_ME_partOfBytes_14 : decode b_ME_partOfBytes 14 = .ok (.ireturn, 1) := by decide +kernel
theorem d_ME_partOfBytes_15 : decode b_ME_partOfBytes 15 = .ok (.iload_n 1, 1) := by decide +kernel
theorem d_ME_partOfBytes_16 : decode b_ME_partOfBytes 16 = .ok (.iconst 2, 1) := by decide +kernel
theorem d_ME_partOfBytes_17 : decode b_ME_partOfBytes 17 = .ok (.iadd, 1) := by decide +kernel
theorem d_ME_partOfBytes_18 : decode b_ME_partOfBytes 18 = .ok (.iconst 2, 1) := by decide +kernel
theorem d_ME_partOfBytes_19 : decode b_ME_partOfBytes 19 = .ok (.iload_n 3, 1) := by decide +kernel
theorem d_ME_partOfBytes_20 : decode b_ME_partOfBytes 20 = .ok (.imul, 1) := by decide +kernel
theorem d_ME_partOfBytes_21 : decode b_ME_partOfBytes 21 = .ok (.iadd, 1) := by decide +kernel
theorem d_ME_partOfBytes_22 : decode b_ME_partOfBytes 22 = .ok (.istore 4, 2) := by decide +kernel
theorem d_ME_partOfBytes_24 : decode b_ME_partOfBytes 24 = .ok (.aload_n 0, 1) := by decide +kernel
theorem d_ME_partOfBytes_25 : decode b_ME_partOfBytes 25 = .ok (.iload 4, 2) := by decide +kernel
theorem d_ME_partOfBytes_27 : decode b_ME_partOfBytes 27 = .ok (.invokevirtual 9, 3) := by decide +kernel
theorem d_ME_partOfBytes_30 : decode b_ME_partOfBytes 30 = .ok (.invokestatic 26, 3) := by decide +kernel
theorem d_ME_partOfBytes_33 : decode b_ME_partOfBytes 33 = .ok (.istore 5, 2) := by decide +kernel
theorem d_ME_partOfBytes_35 : decode b_ME_partOfBytes 35 = .ok (.aload_n 0, 1) := by decide +kernel
theorem d_ME_partOfBytes_36 : decode b_ME_partOfBytes 36 = .ok (.iload 4, 2) := by decide +kernel
theorem d_ME_partOfBytes_38 : decode b_ME_partOfBytes 38 = .ok (.iconst 1, 1) := by decide +kernel
theorem d_ME_partOfBytes_39 : decode b_ME_partOfBytes 39 = .ok (.iadd, 1) := by decide +kernel
theorem d_ME_partOfBytes_40 : decode b_ME_partOfBytes 40 = .ok (.invokevirtual 9, 3) := by decide +kernel
theorem d_ME_partOfBytes_43 : decode b_ME_partOfBytes 43 = .ok (.invokestatic 26, 3) := by decide +kernel
theorem d_ME_partOfBytes_46 : decode b_ME_partOfBytes 46 = .ok (.istore 6, 2) := by decide +kernel
theorem d_ME_partOfBytes_48 : decode b_ME_partOfBytes 48 = .ok (.iload 5, 2) := by decide +kernel
theorem d_ME_partOfBytes_50 : decode b_ME_partOfBytes 50 = .ok (.bipush 16, 2) := by decide +kernel
theorem d_ME_partOfBytes_52 : decode b_ME_partOfBytes 52 = .ok (.imul, 1) := by decide +kernel
theorem d_ME_partOfBytes_53 : decode b_ME_partOfBytes 53 = .ok (.iload 6, 2) := by decide +kernel
theorem d_ME_partOfBytes_55 : decode b_ME_partOfBytes 55 = .ok (.iadd, 1) := by decide +kernel
theorem d_ME_partOfBytes_56 : decode b_ME_partOfBytes 56 = .ok (.ireturn, 1) := by decide +kernel
