abbrev b_MG_init : ByteArray := prog_6_method_1_code
abbrev y_MG_init : MethodName := ⟨R_MG, "<init>", "()V"⟩
abbrev w_MG_init : List Cond := (.code ⟨"TextTerms$Magnitude", "<init>", "()V"⟩ prog_6_method_1_code 1 (Option.none : Option Jvm.ClassFile.FieldType)) :: tt_T
theorem hv_MG_init : y_MG_init.cls = R_MG ∧ y_MG_init.cls ≠ "java/lang/invoke/MethodHandle" ∧ y_MG_init.cls ≠ "java/lang/invoke/VarHandle" ∧ (parseMethodDescriptor y_MG_init.desc).map (fun d => d.parameters.length) = some 0 := by decide +kernel
theorem d_MG_init_0 : decode b_MG_init 0 = .ok (.aload_n 0, 1) := by decide +kernel
theorem d_MG_init_1 : decode b_MG_init 1 = .ok (.invokespecial 3, 3) := by decide +kernel
theorem d_MG_init_4 : decode b_MG_init 4 = .ok (.aload_n 0, 1) := by decide +kernel
theorem d_MG_init_5 : decode b_MG_init 5 = .ok (.bipush 32, 2) := by decide +kernel
theorem d_MG_init_7 : decode b_MG_init 7 = .ok (.newarray .int, 2) := by decide +kernel
theorem d_MG_init_9 : decode b_MG_init 9 = .ok (.putfield 9, 3) := by decide +kernel
theorem d_MG_init_12 : decode b_MG_init 12 = .ok (.aload_n 0, 1) := by decide +kernel
theorem d_MG_init_13 : decode b_MG_init 13 = .ok (.iconst 0, 1) := by decide +kernel
theorem d_MG_init_14 : decode b_MG_init 14 = .ok (.putfield 15, 3) := by decide +kernel
theorem d_MG_init_17 : decode b_MG_init 17 = .ok (.return_, 1) := by decide +kernel
abbrev b_MG_take : ByteArray := prog_6_method_2_code
abbrev y_MG_take : MethodName := ⟨R_MG, "take", "(LTextTerms$Bytes;II)V"⟩
abbrev w_MG_take : List Cond := (.code ⟨"TextTerms$Magnitude", "take", "(LTextTerms$Bytes;II)V"⟩ prog_6_method_2_code 9 (Option.none : Option Jvm.ClassFile.FieldType)) :: tt_T
theorem hv_MG_take : y_MG_take.cls = R_MG ∧ y_MG_take.cls ≠ "java/lang/invoke/MethodHandle" ∧ y_MG_take.cls ≠ "java/lang/invoke/VarHandle" ∧ (parseMethodDescriptor y_MG_take.desc).map (fun d => d.parameters.length) = some 3 := by decide +kernel
theorem d_MG_take_0 : decode b_MG_take 0 = .ok (.aload_n 0, 1) := by decide +kernel
theorem d_MG_take_1 : decode b_MG_take 1 = .ok (.iconst 0, 1) := by decide +kernel
theorem d_MG_take_2 : decode b_MG_take 2 = .ok (.putfield 15, 3) := by decide +kernel
theorem d_MG_take_5 : decode b_MG_take 5 = .ok (.lconst 1, 1) := by decide +kernel
theorem d_MG_take_6 : decode b_MG_take 6 = .ok (.lstore 4, 2) := by decide +kernel
theorem d_MG_take_8 : decode b_MG_take 8 = .ok (.lconst 0, 1) := by decide +kernel
theorem d_MG_take_9 : decode b_MG_take 9 = .ok (.lstore 6, 2) := by decide +kernel
theorem d_MG_take_11 : decode b_MG_take 11 = .ok (.aload_n 1, 1) := by decide +kernel
theorem d_MG_take_12 : decode b_MG_take 12 = .ok (.iload_n 2, 1) := by decide +kernel
theorem d_MG_take_13 : decode b_MG_take 13 = .ok (.iload_n 3, 1) := by decide +kernel
theorem d_MG_take_14 : decode b_MG_take 14 = .ok (.invokestatic 19, 3) := by decide +kernel
theorem d_MG_take_17 : decode b_MG_take 17 = .ok (.istore 8, 2) := by decide +kernel
theorem d_MG_take_19 : decode b_MG_take 19 = .ok (.iload 8, 2) := by decide +kernel
theorem d_MG_take_21 : decode b_MG_take 21 = .ok (.iload_n 3, 1) := by decide +kernel
theorem d_MG_take_22 : decode b_MG_take 22 = .ok (.if_icmp .ge 67, 3) := by decide +kernel
theorem d_MG_take_25 : decode b_MG_take 25 = .ok (.lload 6, 2) := by decide +kernel
theorem d_MG_take_27 : decode b_MG_take 27 = .ok (.ldc2_w 25, 3) := by decide +kernel
theorem d_MG_take_30 : decode b_MG_take 30 = .ok (.lmul, 1) := by decide +kernel
theorem d_MG_take_31 : decode b_MG_take 31 = .ok (.aload_n 1, 1) := by decide +kernel
theorem d_MG_take_32 : decode b_MG_take 32 = .ok (.iload 8, 2) := by decide +kernel
theorem d_MG_take_34 : decode b_MG_take 34 = .ok (.invokevirtual 27, 3) := by decide +kernel
theorem d_MG_take_37 : decode b_MG_take 37 = .ok (.bipush 48, 2) := by decide +kernel
theorem d_MG_take_39 : decode b_MG_take 39 = .ok (.isub, 1) := by decide +kernel
theorem d_MG_take_40 : decode b_MG_take 40 = .ok (.i2l, 1) := by decide +kernel
theorem d_MG_take_41 : decode b_MG_take 41 = .ok (.ladd, 1) := by decide +kernel
theorem d_MG_take_42 : decode b_MG_take 42 = .ok (.lstore 6, 2) := by decide +kernel
theorem d_MG_take_44 : decode b_MG_take 44 = .ok (.lload 4, 2) := by decide +kernel
theorem d_MG_take_46 : decode b_MG_take 46 = .ok (.ldc2_w 25, 3) := by decide +kernel
theorem d_MG_take_49 : decode b_MG_take 49 = .ok (.lmul, 1) := by decide +kernel
theorem d_MG_take_50 : decode b_MG_take 50 = .ok (.lstore 4, 2) := by decide +kernel
theorem d_MG_take_52 : decode b_MG_take 52 = .ok (.lload 4, 2) := by decide +kernel
theorem d_MG_take_54 : decode b_MG_take 54 = .ok (.ldc2_w 33, 3) := by decide +kernel
theorem d_MG_take_57 : decode b_MG_take 57 = .ok (.lcmp, 1) := by decide +kernel
theorem d_MG_take_58 : decode b_MG_take 58 = .ok (.ifCond .eq 11, 3) := by decide +kernel
theorem d_MG_take_61 : decode b_MG_take 61 = .ok (.iload 8, 2) := by decide +kernel
theorem d_MG_take_63 : decode b_MG_take 63 = .ok (.iload_n 3, 1) := by decide +kernel
theorem d_MG_take_64 : decode b_MG_take 64 = .ok (.iconst 1, 1) := by decide +kernel
theorem d_MG_take_65 : decode b_MG_take 65 = .ok (.isub, 1) := by decide +kernel
theorem d_MG_take_66 : decode b_MG_take 66 = .ok (.if_icmp .ne 17, 3) := by decide +kernel
theorem d_MG_take_69 : decode b_MG_take 69 = .ok (.aload_n 0, 1) := by decide +kernel
theorem d_MG_take_70 : decode b_MG_take 70 = .ok (.lload 4, 2) := by decide +kernel
theorem d_MG_take_72 : decode b_MG_take 72 = .ok (.lload 6, 2) := by decide +kernel
theorem d_MG_take_74 : decode b_MG_take 74 = .ok (.invokevirtual 35, 3) := by decide +kernel
theorem d_MG_take_77 : decode b_MG_take 77 = .ok (.lconst 1, 1) := by decide +kernel
theorem d_MG_take_78 : decode b_MG_take 78 = .ok (.lstore 4, 2) := by decide +kernel
theorem d_MG_take_80 : decode b_MG_take 80 = .ok (.lconst 0, 1) := by decide +kernel
theorem d_MG_take_81 : decode b_MG_take 81 = .ok (.lstore 6, 2) := by decide +kernel
theorem d_MG_take_83 : decode b_MG_take 83 = .ok (.iinc 8 1, 3) := by decide +kernel
theorem d_MG_take_86 : decode b_MG_take 86 = .ok (.goto (-67), 3) := by decide +kernel
theorem d_MG_take_89 : decode b_MG_take 89 = .ok (.return_, 1) := by decide +kernel
abbrev b_MG_multiplyAndAdd : ByteArray := prog_6_method_3_code
abbrev y_MG_multiplyAndAdd : MethodName := ⟨R_MG, "multiplyAndAdd", "(JJ)V"⟩
abbrev w_MG_multiplyAndAdd : List Cond := (.code ⟨"TextTerms$Magnitude", "multiplyAndAdd", "(JJ)V"⟩ prog_6_method_3_code 10 (Option.none : Option Jvm.ClassFile.FieldType)) :: tt_T
theorem hv_MG_multiplyAndAdd : y_MG_multiplyAndAdd.cls = R_MG ∧ y_MG_multiplyAndAdd.cls ≠ "java/lang/invoke/MethodHandle" ∧ y_MG_multiplyAndAdd.cls ≠ "java/lang/invoke/VarHandle" ∧ (parseMethodDescriptor y_MG_multiplyAndAdd.desc).map (fun d => d.parameters.length) = some 2 := by decide +kernel
theorem d_MG_multiplyAndAdd_0 : decode b_MG_multiplyAndAdd 0 = .ok (.lload_n 3, 1) := by decide +kernel
theorem d_MG_multiplyAndAdd_1 : decode b_MG_multiplyAndAdd 1 = .ok (.lstore 5, 2) := by decide +kernel
theorem d_MG_multiplyAndAdd_3 : decode b_MG_multiplyAndAdd 3 = .ok (.iconst 0, 1) := by decide +kernel
theorem d_MG_multiplyAndAdd_4 : decode b_MG_multiplyAndAdd 4 = .ok (.istore 7, 2) := by decide +kernel
theorem d_MG_multiplyAndAdd_6 : decode b_MG_multiplyAndAdd 6 = .ok (.iload 7, 2) := by decide +kernel
theorem d_MG_multiplyAndAdd_8 : decode b_MG_multiplyAndAdd 8 = .ok (.aload_n 0, 1) := by decide +kernel
theorem d_MG_multiplyAndAdd_9 : decode b_MG_multiplyAndAdd 9 = .ok (.getfield 15, 3) := by decide +kernel
theorem d_MG_multiplyAndAdd_12 : decode b_MG_multiplyAndAdd 12 = .ok (.if_icmp .ge 45, 3) := by decide +kernel
theorem d_MG_multiplyAndAdd_15 : decode b_MG_multiplyAndAdd 15 = .ok (.aload_n 0, 1) := by decide +kernel
theorem d_MG_multiplyAndAdd_16 : decode b_MG_multiplyAndAdd 16 = .ok (.getfield 9, 3) := by decide +kernel
theorem d_MG_multiplyAndAdd_19 : decode b_MG_multiplyAndAdd 19 = .ok (.iload 7, 2) := by decide +kernel
theorem d_MG_multiplyAndAdd_21 : decode b_MG_multiplyAndAdd 21 = .ok (.iaload, 1) := by decide +kernel
theorem d_MG_multiplyAndAdd_22 : decode b_MG_multiplyAndAdd 22 = .ok (.i2l, 1) := by decide +kernel
theorem d_MG_multiplyAndAdd_23 : decode b_MG_multiplyAndAdd 23 = .ok (.ldc2_w 39, 3) := by decide +kernel
theorem d_MG_multiplyAndAdd_26 : decode b_MG_multiplyAndAdd 26 = .ok (.land, 1) := by decide +kernel
theorem d_MG_multiplyAndAdd_27 : decode b_MG_multiplyAndAdd 27 = .ok (.lload_n 1, 1) := by decide +kernel
theorem d_MG_multiplyAndAdd_28 : decode b_MG_multiplyAndAdd 28 = .ok (.lmul, 1) := by decide +kernel
theorem d_MG_multiplyAndAdd_29 : decode b_MG_multiplyAndAdd 29 = .ok (.lload 5, 2) := by decide +kernel
theorem d_MG_multiplyAndAdd_31 : decode b_MG_multiplyAndAdd 31 = .ok (.ladd, 1) := by decide +kernel
theorem d_MG_multiplyAndAdd_32 : decode b_MG_multiplyAndAdd 32 = .ok (.lstore 8, 2) := by decide +kernel
theorem d_MG_multiplyAndAdd_34 : decode b_MG_multiplyAndAdd 34 = .ok (.aload_n 0, 1) := by decide +kernel
theorem d_MG_multiplyAndAdd_35 : decode b_MG_multiplyAndAdd 35 = .ok (.getfield 9, 3) := by decide +kernel
theorem d_MG_multiplyAndAdd_38 : decode b_MG_multiplyAndAdd 38 = .ok (.iload 7, 2) := by decide +kernel
theorem d_MG_multiplyAndAdd_40 : decode b_MG_multiplyAndAdd 40 = .ok (.lload 8, 2) := by decide +kernel
theorem d_MG_multiplyAndAdd_42 : decode b_MG_multiplyAndAdd 42 = .ok (.l2i, 1) := by decide +kernel
theorem d_MG_multiplyAndAdd_43 : decode b_MG_multiplyAndAdd 43 = .ok (.iastore, 1) := by decide +kernel
theorem d_MG_multiplyAndAdd_44 : decode b_MG_multiplyAndAdd 44 = .ok (.lload 8, 2) := by decide +kernel
theorem d_MG_multiplyAndAdd_46 : decode b_MG_multiplyAndAdd 46 = .ok (.bipush 32, 2) := by decide +kernel
theorem d_MG_multiplyAndAdd_48 : decode b_MG_multiplyAndAdd 48 = .ok (.lushr, 1) := by decide +kernel
theorem d_MG_multiplyAndAdd_49 : decode b_MG_multiplyAndAdd 49 = .ok (.lstore 5, 2) := by decide +kernel
theorem d_MG_multiplyAndAdd_51 : decode b_MG_multiplyAndAdd 51 = .ok (.iinc 7 1, 3) := by decide +kernel
theorem d_MG_multiplyAndAdd_54 : decode b_MG_multiplyAndAdd 54 = .ok (.goto (-48), 3) := by decide +kernel
theorem d_MG_multiplyAndAdd_57 : decode b_MG_multiplyAndAdd 57 = .ok (.lload 5, 2) := by decide +kernel
theorem d_MG_multiplyAndAdd_59 : decode b_MG_multiplyAndAdd 59 = .ok (.lconst 0, 1) := by decide +kernel
theorem d_MG_multiplyAndAdd_60 : decode b_MG_multiplyAndAdd 60 = .ok (.lcmp, 1) := by decide +kernel
theorem d_MG_multiplyAndAdd_61 : decode b_MG_multiplyAndAdd 61 = .ok (.ifCond .eq 37, 3) := by decide +kernel
theorem d_MG_multiplyAndAdd_64 : decode b_MG_multiplyAndAdd 64 = .ok (.aload_n 0, 1) := by decide +kernel
theorem d_MG_multiplyAndAdd_65 : decode b_MG_multiplyAndAdd 65 = .ok (.getfield 15, 3) := by decide +kernel
theorem d_MG_multiplyAndAdd_68 : decode b_MG_multiplyAndAdd 68 = .ok (.aload_n 0, 1) := by decide +kernel
theorem d_MG_multiplyAndAdd_69 : decode b_MG_multiplyAndAdd 69 = .ok (.getfield 9, 3) := by decide +kernel
theorem d_MG_multiplyAndAdd_72 : decode b_MG_multiplyAndAdd 72 = .ok (.arraylength, 1) := by decide +kernel
theorem d_MG_multiplyAndAdd_73 : decode b_MG_multiplyAndAdd 73 = .ok (.if_icmp .ge 25, 3) := by decide +kernel
theorem d_MG_multiplyAndAdd_76 : decode b_MG_multiplyAndAdd 76 = .ok (.aload_n 0, 1) := by decide +kernel
theorem d_MG_multiplyAndAdd_77 : decode b_MG_multiplyAndAdd 77 = .ok (.getfield 9, 3) := by decide +kernel
theorem d_MG_multiplyAndAdd_80 : decode b_MG_multiplyAndAdd 80 = .ok (.aload_n 0, 1) := by decide +kernel
theorem d_MG_multiplyAndAdd_81 : decode b_MG_multiplyAndAdd 81 = .ok (.getfield 15, 3) := by decide +kernel
theorem d_MG_multiplyAndAdd_84 : decode b_MG_multiplyAndAdd 84 = .ok (.lload 5, 2) := by decide +kernel
theorem d_MG_multiplyAndAdd_86 : decode b_MG_multiplyAndAdd 86 = .ok (.l2i, 1) := by decide +kernel
theorem d_MG_multiplyAndAdd_87 : decode b_MG_multiplyAndAdd 87 = .ok (.iastore, 1) := by decide +kernel
theorem d_MG_multiplyAndAdd_88 : decode b_MG_multiplyAndAdd 88 = .ok (.aload_n 0, 1) := by decide +kernel
theorem d_MG_multiplyAndAdd_89 : decode b_MG_multiplyAndAdd 89 = .ok (.dup, 1) := by decide +kernel
theorem d_MG_multiplyAndAdd_90 : decode b_MG_multiplyAndAdd 90 = .ok (.getfield 15, 3) := by decide +kernel
theorem d_MG_multiplyAndAdd_93 : decode b_MG_multiplyAndAdd 93 = .ok (.iconst 1, 1) := by decide +kernel
theorem d_MG_multiplyAndAdd_94 : decode b_MG_multiplyAndAdd 94 = .ok (.iadd, 1) := by decide +kernel
theorem d_MG_multiplyAndAdd_95 : decode b_MG_multiplyAndAdd 95 = .ok (.putfield 15, 3) := by decide +kernel
theorem d_MG_multiplyAndAdd_98 : decode b_MG_multiplyAndAdd 98 = .ok (.return_, 1) := by decide +kernel
abbrev b_MG_bits : ByteArray := prog_6_method_4_code
abbrev y_MG_bits : MethodName := ⟨R_MG, "bits", "()I"⟩
abbrev w_MG_bits : List Cond := (.code ⟨"TextTerms$Magnitude", "bits", "()I"⟩ prog_6_method_4_code 2 (Option.some Jvm.ClassFile.FieldType.int)) :: tt_T
theorem hv_MG_bits : y_MG_bits.cls = R_MG ∧ y_MG_bits.cls ≠ "java/lang/invoke/MethodHandle" ∧ y_MG_bits.cls ≠ "java/lang/invoke/VarHandle" ∧ (parseMethodDescriptor y_MG_bits.desc).map (fun d => d.parameters.length) = some 0 := by decide +kernel
theorem d_MG_bits_0 : decode b_MG_bits 0 = .ok (.bipush 32, 2) := by decide +kernel
theorem d_MG_bits_2 : decode b_MG_bits 2 = .ok (.aload_n 0, 1) := by decide +kernel
theorem d_MG_bits_3 : decode b_MG_bits 3 = .ok (.getfield 15, 3) := by decide +kernel
theorem d_MG_bits_6 : decode b_MG_bits 6 = .ok (.imul, 1) := by decide +kernel
theorem d_MG_bits_7 : decode b_MG_bits 7 = .ok (.istore_n 1, 1) := by decide +kernel
theorem d_MG_bits_8 : decode b_MG_bits 8 = .ok (.iload_n 1, 1) := by decide +kernel
theorem d_MG_bits_9 : decode b_MG_bits 9 = .ok (.ifCond .le 19, 3) := by decide +kernel
theorem d_MG_bits_12 : decode b_MG_bits 12 = .ok (.aload_n 0, 1) := by decide +kernel
theorem d_MG_bits_13 : decode b_MG_bits 13 = .ok (.iload_n 1, 1) := by decide +kernel
theorem d_MG_bits_14 : decode b_MG_bits 14 = .ok (.iconst 1, 1) := by decide +kernel
theorem d_MG_bits_15 : decode b_MG_bits 15 = .ok (.isub, 1) := by decide +kernel
theorem d_MG_bits_16 : decode b_MG_bits 16 = .ok (.invokevirtual 41, 3) := by decide +kernel
theorem d_MG_bits_19 : decode b_MG_bits 19 = .ok (.ifCond .ne 9, 3) := by decide +kernel
theorem d_MG_bits_22 : decode b_MG_bits 22 = .ok (.iinc 1 (-1), 3) := by decide +kernel
theorem d_MG_bits_25 : decode b_MG_bits 25 = .ok (.goto (-17), 3) := by decide +kernel
theorem d_MG_bits_28 : decode b_MG_bits 28 = .ok (.iload_n 1, 1) := by decide +kernel
theorem d_MG_bits_29 : decode b_MG_bits 29 = .ok (.ireturn, 1) := by decide +kernel
abbrev b_MG_bit : ByteArray := prog_6_method_5_code
abbrev y_MG_bit : MethodName := ⟨R_MG, "bit", "(I)I"⟩
abbrev w_MG_bit : List Cond := (.code ⟨"TextTerms$Magnitude", "bit", "(I)I"⟩ prog_6_method_5_code 2 (Option.some Jvm.ClassFile.FieldType.int)) :: tt_T
theorem hv_MG_bit : y_MG_bit.cls = R_MG ∧ y_MG_bit.cls ≠ "java/lang/invoke/MethodHandle" ∧ y_MG_bit.cls ≠ "java/lang/invoke/VarHandle" ∧ (parseMethodDescriptor y_MG_bit.desc).map (fun d => d.parameters.length) = some 1 := by decide +kernel
theorem d_MG_bit_0 : decode b_MG_bit 0 = .ok (.iload_n 1, 1) := by decide +kernel
theorem d_MG_bit_1 : decode b_MG_bit 1 = .ok (.ifCond .lt 14, 3) := by decide +kernel
theorem d_MG_bit_4 : decode b_MG_bit 4 = .ok (.iload_n 1, 1) := by decide +kernel
theorem d_MG_bit_5 : decode b_MG_bit 5 = .ok (.bipush 32, 2) := by decide +kernel
theorem d_MG_bit_7 : decode b_MG_bit 7 = .ok (.aload_n 0, 1) := by decide +kernel
theorem d_MG_bit_8 : decode b_MG_bit 8 = .ok (.getfield 15, 3) := by decide +kernel
theorem d_MG_bit_11 : decode b_MG_bit 11 = .ok (.imul, 1) := by decide +kernel
theorem d_MG_bit_12 : decode b_MG_bit 12 = .ok (.if_icmp .lt 5, 3) := by decide +kernel
theorem d_MG_bit_15 : decode b_MG_bit 15 = .ok (.iconst (-1), 1) := by decide +kernel
theorem d_MG_bit_16 : decode b_MG_bit 16 = .ok (.ireturn, 1) := by decide +kernel
theorem d_MG_bit_17 : decode b_MG_bit 17 = .ok (.aload_n 0, 1) := by decide +kernel
theorem d_MG_bit_18 : decode b_MG_bit 18 = .ok (.getfield 9, 3) := by decide +kernel
theorem d_MG_bit_21 : decode b_MG_bit 21 = .ok (.iload_n 1, 1) := by decide +kernel
theorem d_MG_bit_22 : decode b_MG_bit 22 = .ok (.bipush 32, 2) := by decide +kernel
theorem d_MG_bit_24 : decode b_MG_bit 24 = .ok (.idiv, 1) := by decide +kernel
theorem d_MG_bit_25 : decode b_MG_bit 25 = .ok (.iaload, 1) := by decide +kernel
theorem d_MG_bit_26 : decode b_MG_bit 26 = .ok (.iload_n 1, 1) := by decide +kernel
theorem d_MG_bit_27 : decode b_MG_bit 27 = .ok (.bipush 32, 2) := by decide +kernel
theorem d_MG_bit_29 : decode b_MG_bit 29 = .ok (.irem, 1) := by decide +kernel
theorem d_MG_bit_30 : decode b_MG_bit 30 = .ok (.iushr, 1) := by decide +kernel
theorem d_MG_bit_31 : decode b_MG_bit 31 = .ok (.iconst 1, 1) := by decide +kernel
theorem d_MG_bit_32 : decode b_MG_bit 32 = .ok (.iand, 1) := by decide +kernel
theorem d_MG_bit_33 : decode b_MG_bit 33 = .ok (.ireturn, 1) := by decide +kernel
