abbrev b_DE_firstDigit : ByteArray := prog_4_method_2_code
abbrev y_DE_firstDigit : MethodName := ⟨R_DE, "firstDigit", "(LTextTerms$Bytes;II)I"⟩
abbrev w_DE_firstDigit : List Cond := (.code ⟨"TextTerms$Decimal", "firstDigit", "(LTextTerms$Bytes;II)I"⟩ prog_4_method_2_code 4 (Option.some Jvm.ClassFile.FieldType.int)) :: tt_T
theorem hv_DE_firstDigit : y_DE_firstDigit.cls = R_DE ∧ y_DE_firstDigit.cls ≠ "java/lang/invoke/MethodHandle" ∧ y_DE_firstDigit.cls ≠ "java/lang/invoke/VarHandle" ∧ (parseMethodDescriptor y_DE_firstDigit.desc).map (fun d => d.parameters.length) = some 3 := by decide +kernel
theorem d_DE_firstDigit_0 : decode b_DE_firstDigit 0 = .ok (.aload_n 0, 1) := by decide +kernel
theorem d_DE_firstDigit_1 : decode b_DE_firstDigit 1 = .ok (.iload_n 1, 1) := by decide +kernel
theorem d_DE_firstDigit_2 : decode b_DE_firstDigit 2 = .ok (.invokevirtual 7, 3) := by decide +kernel
theorem d_DE_firstDigit_5 : decode b_DE_firstDigit 5 = .ok (.bipush 45, 2) := by decide +kernel
theorem d_DE_firstDigit_7 : decode b_DE_firstDigit 7 = .ok (.if_icmp .ne 9, 3) := by decide +kernel
theorem d_DE_firstDigit_10 : decode b_DE_firstDigit 10 = .ok (.iload_n 1, 1) := by decide +kernel
theorem d_DE_firstDigit_11 : decode b_DE_firstDigit 11 = .ok (.iconst 1, 1) := by decide +kernel
theorem d_DE_firstDigit_12 : decode b_DE_firstDigit 12 = .ok (.iadd, 1) := by decide +kernel
theorem d_DE_firstDigit_13 : decode b_DE_firstDigit 13 = .ok (.goto 4, 3) := by decide +kernel
theorem d_DE_firstDigit_16 : decode b_DE_firstDigit 16 = .ok (.iload_n 1, 1) := by decide +kernel
theorem d_DE_firstDigit_17 : decode b_DE_firstDigit 17 = .ok (.istore_n 3, 1) := by decide +kernel
theorem d_DE_firstDigit_18 : decode b_DE_firstDigit 18 = .ok (.iload_n 3, 1) := by decide +kernel
theorem d_DE_firstDigit_19 : decode b_DE_firstDigit 19 = .ok (.iload_n 2, 1) := by decide +kernel
theorem d_DE_firstDigit_20 : decode b_DE_firstDigit 20 = .ok (.if_icmp .ge 19, 3) := by decide +kernel
theorem d_DE_firstDigit_23 : decode b_DE_firstDigit 23 = .ok (.aload_n 0, 1) := by decide +kernel
theorem d_DE_firstDigit_24 : decode b_DE_firstDigit 24 = .ok (.iload_n 3, 1) := by decide +kernel
theorem d_DE_firstDigit_25 : decode b_DE_firstDigit 25 = .ok (.invokevirtual 7, 3) := by decide +kernel
theorem d_DE_firstDigit_28 : decode b_DE_firstDigit 28 = .ok (.bipush 48, 2) := by decide +kernel
theorem d_DE_firstDigit_30 : decode b_DE_firstDigit 30 = .ok (.if_icmp .ne 9, 3) := by decide +kernel
theorem d_DE_firstDigit_33 : decode b_DE_firstDigit 33 = .ok (.iinc 3 1, 3) := by decide +kernel
theorem d_DE_firstDigit_36 : decode b_DE_firstDigit 36 = .ok (.goto (-18), 3) := by decide +kernel
theorem d_DE_firstDigit_39 : decode b_DE_firstDigit 39 = .ok (.iload_n 3, 1) := by decide +kernel
theorem d_DE_firstDigit_40 : decode b_DE_firstDigit 40 = .ok (.ireturn, 1) := by decide +kernel
abbrev b_DE_isBelowZero : ByteArray := prog_4_method_3_code
abbrev y_DE_isBelowZero : MethodName := ⟨R_DE, "isBelowZero", "(LTextTerms$Bytes;II)Z"⟩
abbrev w_DE_isBelowZero : List Cond := (.code ⟨"TextTerms$Decimal", "isBelowZero", "(LTextTerms$Bytes;II)Z"⟩ prog_4_method_3_code 3 (Option.some Jvm.ClassFile.FieldType.boolean)) :: tt_T
theorem hv_DE_isBelowZero : y_DE_isBelowZero.cls = R_DE ∧ y_DE_isBelowZero.cls ≠ "java/lang/invoke/MethodHandle" ∧ y_DE_isBelowZero.cls ≠ "java/lang/invoke/VarHandle" ∧ (parseMethodDescriptor y_DE_isBelowZero.desc).map (fun d => d.parameters.length) = some 3 := by decide +kernel
theorem d_DE_isBelowZero_0 : decode b_DE_isBelowZero 0 = .ok (.aload_n 0, 1) := by decide +kernel
theorem d_DE_isBelowZero_1 : decode b_DE_isBelowZero 1 = .ok (.iload_n 1, 1) := by decide +kernel
theorem d_DE_isBelowZero_2 : decode b_DE_isBelowZero 2 = .ok (.invokevirtual 7, 3) := by decide +kernel
theorem d_DE_isBelowZero_5 : decode b_DE_isBelowZero 5 = .ok (.bipush 45, 2) := by decide +kernel
theorem d_DE_isBelowZero_7 : decode b_DE_isBelowZero 7 = .ok (.if_icmp .ne 17, 3) := by decide +kernel
theorem d_DE_isBelowZero_10 : decode b_DE_isBelowZero 10 = .ok (.aload_n 0, 1) := by decide +kernel
theorem d_DE_isBelowZero_11 : decode b_DE_isBelowZero 11 = .ok (.iload_n 1, 1) := by decide +kernel
theorem d_DE_isBelowZero_12 : decode b_DE_isBelowZero 12 = .ok (.iload_n 2, 1) := by decide +kernel
theorem d_DE_isBelowZero_13 : decode b_DE_isBelowZero 13 = .ok (.invokestatic 13, 3) := by decide +kernel
theorem d_DE_isBelowZero_16 : decode b_DE_isBelowZero 16 = .ok (.iload_n 2, 1) := by decide +kernel
theorem d_DE_isBelowZero_17 : decode b_DE_isBelowZero 17 = .ok (.if_icmp .ge 7, 3) := by decide +kernel
theorem d_DE_isBelowZero_20 : decode b_DE_isBelowZero 20 = .ok (.iconst 1, 1) := by decide +kernel
theorem d_DE_isBelowZero_21 : decode b_DE_isBelowZero 21 = .ok (.goto 4, 3) := by decide +kernel
theorem d_DE_isBelowZero_24 : decode b_DE_isBelowZero 24 = .ok (.iconst 0, 1) := by decide +kernel
theorem d_DE_isBelowZero_25 : decode b_DE_isBelowZero 25 = .ok (.ireturn, 1) := by decide +kernel
abbrev b_DE_isTooLarge : ByteArray := prog_4_method_4_code
abbrev y_DE_isTooLarge : MethodName := ⟨R_DE, "isTooLarge", "(LTextTerms$Bytes;II)Z"⟩
abbrev w_DE_isTooLarge : List Cond := (.code ⟨"TextTerms$Decimal", "isTooLarge", "(LTextTerms$Bytes;II)Z"⟩ prog_4_method_4_code 7 (Option.some Jvm.ClassFile.FieldType.boolean)) :: tt_T
theorem hv_DE_isTooLarge : y_DE_isTooLarge.cls = R_DE ∧ y_DE_isTooLarge.cls ≠ "java/lang/invoke/MethodHandle" ∧ y_DE_isTooLarge.cls ≠ "java/lang/invoke/VarHandle" ∧ (parseMethodDescriptor y_DE_isTooLarge.desc).map (fun d => d.parameters.length) = some 3 := by decide +kernel
theorem d_DE_isTooLarge_0 : decode b_DE_isTooLarge 0 = .ok (.aload_n 0, 1) := by decide +kernel
theorem d_DE_isTooLarge_1 : decode b_DE_isTooLarge 1 = .ok (.iload_n 1, 1) := by decide +kernel
theorem d_DE_isTooLarge_2 : decode b_DE_isTooLarge 2 = .ok (.iload_n 2, 1) := by decide +kernel
theorem d_DE_isTooLarge_3 : decode b_DE_isTooLarge 3 = .ok (.invokestatic 13, 3) := by decide +kernel
theorem d_DE_isTooLarge_6 : decode b_DE_isTooLarge 6 = .ok (.istore_n 3, 1) := by decide +kernel
theorem d_DE_isTooLarge_7 : decode b_DE_isTooLarge 7 = .ok (.iload_n 2, 1) := by decide +kernel
theorem d_DE_isTooLarge_8 : decode b_DE_isTooLarge 8 = .ok (.iload_n 3, 1) := by decide +kernel
theorem d_DE_isTooLarge_9 : decode b_DE_isTooLarge 9 = .ok (.isub, 1) := by decide +kernel
theorem d_DE_isTooLarge_10 : decode b_DE_isTooLarge 10 = .ok (.istore 4, 2) := by decide +kernel
theorem d_DE_isTooLarge_12 : decode b_DE_isTooLarge 12 = .ok (.iload 4, 2) := by decide +kernel
theorem d_DE_isTooLarge_14 : decode b_DE_isTooLarge 14 = .ok (.ldc 19, 2) := by decide +kernel
theorem d_DE_isTooLarge_16 : decode b_DE_isTooLarge 16 = .ok (.invokevirtual 21, 3) := by decide +kernel
theorem d_DE_isTooLarge_19 : decode b_DE_isTooLarge 19 = .ok (.if_icmp .eq 19, 3) := by decide +kernel
theorem d_DE_isTooLarge_22 : decode b_DE_isTooLarge 22 = .ok (.iload 4, 2) := by decide +kernel
theorem d_DE_isTooLarge_24 : decode b_DE_isTooLarge 24 = .ok (.ldc 19, 2) := by decide +kernel
theorem d_DE_isTooLarge_26 : decode b_DE_isTooLarge 26 = .ok (.invokevirtual 21, 3) := by decide +kernel
theorem d_DE_isTooLarge_29 : decode b_DE_isTooLarge 29 = .ok (.if_icmp .le 7, 3) := by decide +kernel
theorem d_DE_isTooLarge_32 : decode b_DE_isTooLarge 32 = .ok (.iconst 1, 1) := by decide +kernel
theorem d_DE_isTooLarge_33 : decode b_DE_isTooLarge 33 = .ok (.goto 4, 3) := by decide +kernel
theorem d_DE_isTooLarge_36 : decode b_DE_isTooLarge 36 = .ok (.iconst 0, 1) := by decide +kernel
theorem d_DE_isTooLarge_37 : decode b_DE_isTooLarge 37 = .ok (.ireturn, 1) := by decide +kernel
theorem d_DE_isTooLarge_38 : decode b_DE_isTooLarge 38 = .ok (.iconst 0, 1) := by decide +kernel
theorem d_DE_isTooLarge_39 : decode b_DE_isTooLarge 39 = .ok (.istore 5, 2) := by decide +kernel
theorem d_DE_isTooLarge_41 : decode b_DE_isTooLarge 41 = .ok (.iload 5, 2) := by decide +kernel
theorem d_DE_isTooLarge_43 : decode b_DE_isTooLarge 43 = .ok (.ldc 19, 2) := by decide +kernel
theorem d_DE_isTooLarge_45 : decode b_DE_isTooLarge 45 = .ok (.invokevirtual 21, 3) := by decide +kernel
theorem d_DE_isTooLarge_48 : decode b_DE_isTooLarge 48 = .ok (.if_icmp .ge 49, 3) := by decide +kernel
theorem d_DE_isTooLarge_51 : decode b_DE_isTooLarge 51 = .ok (.aload_n 0, 1) := by decide +kernel
theorem d_DE_isTooLarge_52 : decode b_DE_isTooLarge 52 = .ok (.iload_n 3, 1) := by decide +kernel
theorem d_DE_isTooLarge_53 : decode b_DE_isTooLarge 53 = .ok (.iload 5, 2) := by decide +kernel
theorem d_DE_isTooLarge_55 : decode b_DE_isTooLarge 55 = .ok (.iadd, 1) := by decide +kernel
theorem d_DE_isTooLarge_56 : decode b_DE_isTooLarge 56 = .ok (.invokevirtual 7, 3) := by decide +kernel
theorem d_DE_isTooLarge_59 : decode b_DE_isTooLarge 59 = .ok (.istore 6, 2) := by decide +kernel
theorem d_DE_isTooLarge_61 : decode b_DE_isTooLarge 61 = .ok (.iload 6, 2) := by decide +kernel
theorem d_DE_isTooLarge_63 : decode b_DE_isTooLarge 63 = .ok (.ldc 19, 2) := by decide +kernel
theorem d_DE_isTooLarge_65 : decode b_DE_isTooLarge 65 = .ok (.iload 5, 2) := by decide +kernel
theorem d_DE_isTooLarge_67 : decode b_DE_isTooLarge 67 = .ok (.invokevirtual 27, 3) := by decide +kernel
theorem d_DE_isTooLarge_70 : decode b_DE_isTooLarge 70 = .ok (.if_icmp .eq 21, 3) := by decide +kernel
theorem d_DE_isTooLarge_73 : decode b_DE_isTooLarge 73 = .ok (.iload 6, 2) := by decide +kernel
theorem d_DE_isTooLarge_75 : decode b_DE_isTooLarge 75 = .ok (.ldc 19, 2) := by decide +kernel
theorem d_DE_isTooLarge_77 : decode b_DE_isTooLarge 77 = .ok (.iload 5, 2) := by decide +kernel
theorem d_DE_isTooLarge_79 : decode b_DE_isTooLarge 79 = .ok (.invokevirtual 27, 3) := by decide +kernel
theorem d_DE_isTooLarge_82 : decode b_DE_isTooLarge 82 = .ok (.if_icmp .le 7, 3) := by decide +kernel
theorem d_DE_isTooLarge_85 : decode b_DE_isTooLarge 85 = .ok (.iconst 1, 1) := by decide +kernel
theorem d_DE_isTooLarge_86 : decode b_DE_isTooLarge 86 = .ok (.goto 4, 3) := by decide +kernel
theorem d_DE_isTooLarge_89 : decode b_DE_isTooLarge 89 = .ok (.iconst 0, 1) := by decide +kernel
theorem d_DE_isTooLarge_90 : decode b_DE_isTooLarge 90 = .ok (.ireturn, 1) := by decide +kernel
theorem d_DE_isTooLarge_91 : decode b_DE_isTooLarge 91 = .ok (.iinc 5 1, 3) := by decide +kernel
theorem d_DE_isTooLarge_94 : decode b_DE_isTooLarge 94 = .ok (.goto (-53), 3) := by decide +kernel
theorem d_DE_isTooLarge_97 : decode b_DE_isTooLarge 97 = .ok (.iconst 1, 1) := by decide +kernel
theorem d_DE_isTooLarge_98 : decode b_DE_isTooLarge 98 = .ok (.ireturn, 1) := by decide +kernel
