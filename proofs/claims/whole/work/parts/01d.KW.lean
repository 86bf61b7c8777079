abbrev b_KW_line : ByteArray := prog_5_method_2_code
abbrev y_KW_line : MethodName := ⟨R_KW, "line", "(I)Ljava/lang/String;"⟩
abbrev w_KW_line : List Cond := (.code ⟨"TextTerms$KnownWords", "line", "(I)Ljava/lang/String;"⟩ prog_5_method_2_code 1 (Option.some (Jvm.ClassFile.FieldType.object "java/lang/String"))) :: tt_T
theorem hv_KW_line : y_KW_line.cls = R_KW ∧ y_KW_line.cls ≠ "java/lang/invoke/MethodHandle" ∧ y_KW_line.cls ≠ "java/lang/invoke/VarHandle" ∧ (parseMethodDescriptor y_KW_line.desc).map (fun d => d.parameters.length) = some 1 := by decide +kernel
theorem d_KW_line_0 : decode b_KW_line 0 = .ok (.iload_n 0, 1) := by decide +kernel
theorem d_KW_line_1 : decode b_KW_line 1 = .ok (.tableswitch 92 0 10 #[59, 62, 65, 68, 71, 74, 77, 80, 83, 86, 89], 59) := by decide +kernel
theorem d_KW_line_60 : decode b_KW_line 60 = .ok (.ldc 9, 2) := by decide +kernel
theorem d_KW_line_62 : decode b_KW_line 62 = .ok (.areturn, 1) := by decide +kernel
theorem d_KW_line_63 : decode b_KW_line 63 = .ok (.ldc 11, 2) := by decide +kernel
theorem d_KW_line_65 : decode b_KW_line 65 = .ok (.areturn, 1) := by decide +kernel
theorem d_KW_line_66 : decode b_KW_line 66 = .ok (.ldc 13, 2) := by decide +kernel
theorem d_KW_line_68 : decode b_KW_line 68 = .ok (.areturn, 1) := by decide +kernel
theorem d_KW_line_69 : decode b_KW_line 69 = .ok (.ldc 15, 2) := by decide +kernel
theorem d_KW_line_71 : decode b_KW_line 71 = .ok (.areturn, 1) := by decide +kernel
theorem d_KW_line_72 : decode b_KW_line 72 = .ok (.ldc 17, 2) := by decide +kernel
theorem d_KW_line_74 : decode b_KW_line 74 = .ok (.areturn, 1) := by decide +kernel
theorem d_KW_line_75 : decode b_KW_line 75 = .ok (.ldc 19, 2) := by decide +kernel
theorem d_KW_line_77 : decode b_KW_line 77 = .ok (.areturn, 1) := by decide +kernel
theorem d_KW_line_78 : decode b_KW_line 78 = .ok (.ldc 21, 2) := by decide +kernel
theorem d_KW_line_80 : decode b_KW_line 80 = .ok (.areturn, 1) := by decide +kernel
theorem d_KW_line_81 : decode b_KW_line 81 = .ok (.ldc 23, 2) := by decide +kernel
theorem d_KW_line_83 : decode b_KW_line 83 = .ok (.areturn, 1) := by decide +kernel
theorem d_KW_line_84 : decode b_KW_line 84 = .ok (.ldc 25, 2) := by decide +kernel
theorem d_KW_line_86 : decode b_KW_line 86 = .ok (.areturn, 1) := by decide +kernel
theorem d_KW_line_87 : decode b_KW_line 87 = .ok (.ldc 27, 2) := by decide +kernel
theorem d_KW_line_89 : decode b_KW_line 89 = .ok (.areturn, 1) := by decide +kernel
theorem d_KW_line_90 : decode b_KW_line 90 = .ok (.ldc 29, 2) := by decide +kernel
theorem d_KW_line_92 : decode b_KW_line 92 = .ok (.areturn, 1) := by decide +kernel
theorem d_KW_line_93 : decode b_KW_line 93 = .ok (.ldc 31, 2) := by decide +kernel
theorem d_KW_line_95 : decode b_KW_line 95 = .ok (.areturn, 1) := by decide +kernel
abbrev b_KW_numberOf : ByteArray := prog_5_method_3_code
abbrev y_KW_numberOf : MethodName := ⟨R_KW, "numberOf", "(LTextTerms$Bytes;II)I"⟩
abbrev w_KW_numberOf : List Cond := (.code ⟨"TextTerms$KnownWords", "numberOf", "(LTextTerms$Bytes;II)I"⟩ prog_5_method_3_code 8 (Option.some Jvm.ClassFile.FieldType.int)) :: tt_T
theorem hv_KW_numberOf : y_KW_numberOf.cls = R_KW ∧ y_KW_numberOf.cls ≠ "java/lang/invoke/MethodHandle" ∧ y_KW_numberOf.cls ≠ "java/lang/invoke/VarHandle" ∧ (parseMethodDescriptor y_KW_numberOf.desc).map (fun d => d.parameters.length) = some 3 := by decide +kernel
theorem d_KW_numberOf_0 : decode b_KW_numberOf 0 = .ok (.iconst 0, 1) := by decide +kernel
theorem d_KW_numberOf_1 : decode b_KW_numberOf 1 = .ok (.istore_n 3, 1) := by decide +kernel
theorem d_KW_numberOf_2 : decode b_KW_numberOf 2 = .ok (.iconst 0, 1) := by decide +kernel
theorem d_KW_numberOf_3 : decode b_KW_numberOf 3 = .ok (.istore 4, 2) := by decide +kernel
theorem d_KW_numberOf_5 : decode b_KW_numberOf 5 = .ok (.iload 4, 2) := by decide +kernel
theorem d_KW_numberOf_7 : decode b_KW_numberOf 7 = .ok (.bipush 11, 2) := by decide +kernel
theorem d_KW_numberOf_9 : decode b_KW_numberOf 9 = .ok (.if_icmp .ge 89, 3) := by decide +kernel
theorem d_KW_numberOf_12 : decode b_KW_numberOf 12 = .ok (.iload 4, 2) := by decide +kernel
theorem d_KW_numberOf_14 : decode b_KW_numberOf 14 = .ok (.invokestatic 35, 3) := by decide +kernel
theorem d_KW_numberOf_17 : decode b_KW_numberOf 17 = .ok (.astore 5, 2) := by decide +kernel
theorem d_KW_numberOf_19 : decode b_KW_numberOf 19 = .ok (.iconst 0, 1) := by decide +kernel
theorem d_KW_numberOf_20 : decode b_KW_numberOf 20 = .ok (.istore 6, 2) := by decide +kernel
theorem d_KW_numberOf_22 : decode b_KW_numberOf 22 = .ok (.iconst 0, 1) := by decide +kernel
theorem d_KW_numberOf_23 : decode b_KW_numberOf 23 = .ok (.istore 7, 2) := by decide +kernel
theorem d_KW_numberOf_25 : decode b_KW_numberOf 25 = .ok (.iload 7, 2) := by decide +kernel
theorem d_KW_numberOf_27 : decode b_KW_numberOf 27 = .ok (.aload 5, 2) := by decide +kernel
theorem d_KW_numberOf_29 : decode b_KW_numberOf 29 = .ok (.invokevirtual 39, 3) := by decide +kernel
theorem d_KW_numberOf_32 : decode b_KW_numberOf 32 = .ok (.if_icmp .gt 60, 3) := by decide +kernel
theorem d_KW_numberOf_35 : decode b_KW_numberOf 35 = .ok (.iload 7, 2) := by decide +kernel
theorem d_KW_numberOf_37 : decode b_KW_numberOf 37 = .ok (.aload 5, 2) := by decide +kernel
theorem d_KW_numberOf_39 : decode b_KW_numberOf 39 = .ok (.invokevirtual 39, 3) := by decide +kernel
theorem d_KW_numberOf_42 : decode b_KW_numberOf 42 = .ok (.if_icmp .ge 18, 3) := by decide +kernel
theorem d_KW_numberOf_45 : decode b_KW_numberOf 45 = .ok (.aload 5, 2) := by decide +kernel
theorem d_KW_numberOf_47 : decode b_KW_numberOf 47 = .ok (.iload 7, 2) := by decide +kernel
theorem d_KW_numberOf_49 : decode b_KW_numberOf 49 = .ok (.invokevirtual 45, 3) := by decide +kernel
theorem d_KW_numberOf_52 : decode b_KW_numberOf 52 = .ok (.bipush 32, 2) := by decide +kernel
theorem d_KW_numberOf_54 : decode b_KW_numberOf 54 = .ok (.if_icmp .eq 6, 3) := by decide +kernel
theorem d_KW_numberOf_57 : decode b_KW_numberOf 57 = .ok (.goto 29, 3) := by decide +kernel
theorem d_KW_numberOf_60 : decode b_KW_numberOf 60 = .ok (.aload 5, 2) := by decide +kernel
theorem d_KW_numberOf_62 : decode b_KW_numberOf 62 = .ok (.iload 6, 2) := by decide +kernel
theorem d_KW_numberOf_64 : decode b_KW_numberOf 64 = .ok (.iload 7, 2) := by decide +kernel
theorem d_KW_numberOf_66 : decode b_KW_numberOf 66 = .ok (.aload_n 0, 1) := by decide +kernel
theorem d_KW_numberOf_67 : decode b_KW_numberOf 67 = .ok (.iload_n 1, 1) := by decide +kernel
theorem d_KW_numberOf_68 : decode b_KW_numberOf 68 = .ok (.iload_n 2, 1) := by decide +kernel
theorem d_KW_numberOf_69 : decode b_KW_numberOf 69 = .ok (.invokestatic 49, 3) := by decide +kernel
theorem d_KW_numberOf_72 : decode b_KW_numberOf 72 = .ok (.ifCond .eq 5, 3) := by decide +kernel
theorem d_KW_numberOf_75 : decode b_KW_numberOf 75 = .ok (.iload_n 3, 1) := by decide +kernel
theorem d_KW_numberOf_76 : decode b_KW_numberOf 76 = .ok (.ireturn, 1) := by decide +kernel
theorem d_KW_numberOf_77 : decode b_KW_numberOf 77 = .ok (.iinc 3 1, 3) := by decide +kernel
theorem d_KW_numberOf_80 : decode b_KW_numberOf 80 = .ok (.iload 7, 2) := by decide +kernel
theorem d_KW_numberOf_82 : decode b_KW_numberOf 82 = .ok (.iconst 1, 1) := by decide +kernel
theorem d_KW_numberOf_83 : decode b_KW_numberOf 83 = .ok (.iadd, 1) := by decide +kernel
theorem d_KW_numberOf_84 : decode b_KW_numberOf 84 = .ok (.istore 6, 2) := by decide +kernel
theorem d_KW_numberOf_86 : decode b_KW_numberOf 86 = .ok (.iinc 7 1, 3) := by decide +kernel
theorem d_KW_numberOf_89 : decode b_KW_numberOf 89 = .ok (.goto (-64), 3) := by decide +kernel
theorem d_KW_numberOf_92 : decode b_KW_numberOf 92 = .ok (.iinc 4 1, 3) := by decide +kernel
theorem d_KW_numberOf_95 : decode b_KW_numberOf 95 = .ok (.goto (-90), 3) := by decide +kernel
theorem d_KW_numberOf_98 : decode b_KW_numberOf 98 = .ok (.iconst (-1), 1) := by decide +kernel
theorem d_KW_numberOf_99 : decode b_KW_numberOf 99 = .ok (.ireturn, 1) := by decide +kernel
abbrev b_KW_isSame : ByteArray := prog_5_method_4_code
abbrev y_KW_isSame : MethodName := ⟨R_KW, "isSame", "(Ljava/lang/String;IILTextTerms$Bytes;II)Z"⟩
abbrev w_KW_isSame : List Cond := (.code ⟨"TextTerms$KnownWords", "isSame", "(Ljava/lang/String;IILTextTerms$Bytes;II)Z"⟩ prog_5_method_4_code 7 (Option.some Jvm.ClassFile.FieldType.boolean)) :: tt_T
theorem hv_KW_isSame : y_KW_isSame.cls = R_KW ∧ y_KW_isSame.cls ≠ "java/lang/invoke/MethodHandle" ∧ y_KW_isSame.cls ≠ "java/lang/invoke/VarHandle" ∧ (parseMethodDescriptor y_KW_isSame.desc).map (fun d => d.parameters.length) = some 6 := by decide +kernel
theorem d_KW_isSame_0 : decode b_KW_isSame 0 = .ok (.iload_n 2, 1) := by decide +kernel
theorem d_KW_isSame_1 : decode b_KW_isSame 1 = .ok (.iload_n 1, 1) := by decide +kernel
theorem d_KW_isSame_2 : decode b_KW_isSame 2 = .ok (.isub, 1) := by decide +kernel
theorem d_KW_isSame_3 : decode b_KW_isSame 3 = .ok (.iload 5, 2) := by decide +kernel
theorem d_KW_isSame_5 : decode b_KW_isSame 5 = .ok (.iload 4, 2) := by decide +kernel
theorem d_KW_isSame_7 : decode b_KW_isSame 7 = .ok (.isub, 1) := by decide +kernel
theorem d_KW_isSame_8 : decode b_KW_isSame 8 = .ok (.if_icmp .eq 5, 3) := by decide +kernel
theorem d_KW_isSame_11 : decode b_KW_isSame 11 = .ok (.iconst 0, 1) := by decide +kernel
theorem d_KW_isSame_12 : decode b_KW_isSame 12 = .ok (.ireturn, 1) := by decide +kernel
theorem d_KW_isSame_13 : decode b_KW_isSame 13 = .ok (.iload_n 1, 1) := by decide +kernel
theorem d_KW_isSame_14 : decode b_KW_isSame 14 = .ok (.istore 6, 2) := by decide +kernel
theorem d_KW_isSame_16 : decode b_KW_isSame 16 = .ok (.iload 6, 2) := by decide +kernel
theorem d_KW_isSame_18 : decode b_KW_isSame 18 = .ok (.iload_n 2, 1) := by decide +kernel
theorem d_KW_isSame_19 : decode b_KW_isSame 19 = .ok (.if_icmp .ge 40, 3) := by decide +kernel
theorem d_KW_isSame_22 : decode b_KW_isSame 22 = .ok (.iload 6, 2) := by decide +kernel
theorem d_KW_isSame_24 : decode b_KW_isSame 24 = .ok (.aload_n 0, 1) := by decide +kernel
theorem d_KW_isSame_25 : decode b_KW_isSame 25 = .ok (.invokevirtual 39, 3) := by decide +kernel
theorem d_KW_isSame_28 : decode b_KW_isSame 28 = .ok (.if_icmp .ge 31, 3) := by decide +kernel
theorem d_KW_isSame_31 : decode b_KW_isSame 31 = .ok (.aload_n 0, 1) := by decide +kernel
theorem d_KW_isSame_32 : decode b_KW_isSame 32 = .ok (.iload 6, 2) := by decide +kernel
theorem d_KW_isSame_34 : decode b_KW_isSame 34 = .ok (.invokevirtual 45, 3) := by decide +kernel
theorem d_KW_isSame_37 : decode b_KW_isSame 37 = .ok (.aload_n 3, 1) := by decide +kernel
theorem d_KW_isSame_38 : decode b_KW_isSame 38 = .ok (.iload 4, 2) := by decide +kernel
theorem d_KW_isSame_40 : decode b_KW_isSame 40 = .ok (.iload 6, 2) := by decide +kernel
theorem d_KW_isSame_42 : decode b_KW_isSame 42 = .ok (.iadd, 1) := by decide +kernel
theorem d_KW_isSame_43 : decode b_KW_isSame 43 = .ok (.iload_n 1, 1) := by decide +kernel
theorem d_KW_isSame_44 : decode b_KW_isSame 44 = .ok (.isub, 1) := by decide +kernel
theorem d_KW_isSame_45 : decode b_KW_isSame 45 = .ok (.invokevirtual 53, 3) := by decide +kernel
theorem d_KW_isSame_48 : decode b_KW_isSame 48 = .ok (.if_icmp .eq 5, 3) := by decide +kernel
theorem d_KW_isSame_51 : decode b_KW_isSame 51 = .ok (.iconst 0, 1) := by decide +kernel
theorem d_KW_isSame_52 : decode b_KW_isSame 52 = .ok (.ireturn, 1) := by decide +kernel
theorem d_KW_isSame_53 : decode b_KW_isSame 53 = .ok (.iinc 6 1, 3) := by decide +kernel
theorem d_KW_isSame_56 : decode b_KW_isSame 56 = .ok (.goto (-40), 3) := by decide +kernel
theorem d_KW_isSame_59 : decode b_KW_isSame 59 = .ok (.iconst 1, 1) := by decide +kernel
theorem d_KW_isSame_60 : decode b_KW_isSame 60 = .ok (.ireturn, 1) := by decide +kernel
