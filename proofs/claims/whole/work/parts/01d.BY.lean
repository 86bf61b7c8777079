abbrev b_BY_init : ByteArray := prog_2_method_1_code
abbrev y_BY_init : MethodName := ⟨R_BY, "<init>", "()V"⟩
abbrev w_BY_init : List Cond := (.code ⟨"TextTerms$Bytes", "<init>", "()V"⟩ prog_2_method_1_code 1 (Option.none : Option Jvm.ClassFile.FieldType)) :: tt_T
theorem hv_BY_init : y_BY_init.cls = R_BY ∧ y_BY_init.cls ≠ "java/lang/invoke/MethodHandle" ∧ y_BY_init.cls ≠ "java/lang/invoke/VarHandle" ∧ (parseMethodDescriptor y_BY_init.desc).map (fun d => d.parameters.length) = some 0 := by decide +kernel
theorem d_BY_init_0 : decode b_BY_init 0 = .ok (.aload_n 0, 1) := by decide +kernel
theorem d_BY_init_1 : decode b_BY_init 1 = .ok (.invokespecial 3, 3) := by decide +kernel
theorem d_BY_init_4 : decode b_BY_init 4 = .ok (.aload_n 0, 1) := by decide +kernel
theorem d_BY_init_5 : decode b_BY_init 5 = .ok (.sipush 16384, 3) := by decide +kernel
theorem d_BY_init_8 : decode b_BY_init 8 = .ok (.newarray .byte, 2) := by decide +kernel
theorem d_BY_init_10 : decode b_BY_init 10 = .ok (.putfield 9, 3) := by decide +kernel
theorem d_BY_init_13 : decode b_BY_init 13 = .ok (.aload_n 0, 1) := by decide +kernel
theorem d_BY_init_14 : decode b_BY_init 14 = .ok (.iconst 0, 1) := by decide +kernel
theorem d_BY_init_15 : decode b_BY_init 15 = .ok (.putfield 15, 3) := by decide +kernel
theorem d_BY_init_18 : decode b_BY_init 18 = .ok (.return_, 1) := by decide +kernel
abbrev b_BY_at : ByteArray := prog_2_method_2_code
abbrev y_BY_at : MethodName := ⟨R_BY, "at", "(I)I"⟩
abbrev w_BY_at : List Cond := (.code ⟨"TextTerms$Bytes", "at", "(I)I"⟩ prog_2_method_2_code 2 (Option.some Jvm.ClassFile.FieldType.int)) :: tt_T
theorem hv_BY_at : y_BY_at.cls = R_BY ∧ y_BY_at.cls ≠ "java/lang/invoke/MethodHandle" ∧ y_BY_at.cls ≠ "java/lang/invoke/VarHandle" ∧ (parseMethodDescriptor y_BY_at.desc).map (fun d => d.parameters.length) = some 1 := by decide +kernel
theorem d_BY_at_0 : decode b_BY_at 0 = .ok (.iload_n 1, 1) := by decide +kernel
theorem d_BY_at_1 : decode b_BY_at 1 = .ok (.ifCond .lt 24, 3) := by decide +kernel
theorem d_BY_at_4 : decode b_BY_at 4 = .ok (.iload_n 1, 1) := by decide +kernel
theorem d_BY_at_5 : decode b_BY_at 5 = .ok (.aload_n 0, 1) := by decide +kernel
theorem d_BY_at_6 : decode b_BY_at 6 = .ok (.getfield 15, 3) := by decide +kernel
theorem d_BY_at_9 : decode b_BY_at 9 = .ok (.if_icmp .ge 16, 3) := by decide +kernel
theorem d_BY_at_12 : decode b_BY_at 12 = .ok (.aload_n 0, 1) := by decide +kernel
theorem d_BY_at_13 : decode b_BY_at 13 = .ok (.getfield 9, 3) := by decide +kernel
theorem d_BY_at_16 : decode b_BY_at 16 = .ok (.iload_n 1, 1) := by decide +kernel
theorem d_BY_at_17 : decode b_BY_at 17 = .ok (.baload, 1) := by decide +kernel
theorem d_BY_at_18 : decode b_BY_at 18 = .ok (.sipush 255, 3) := by decide +kernel
theorem d_BY_at_21 : decode b_BY_at 21 = .ok (.iand, 1) := by decide +kernel
theorem d_BY_at_22 : decode b_BY_at 22 = .ok (.goto 4, 3) := by decide +kernel
theorem d_BY_at_25 : decode b_BY_at 25 = .ok (.iconst (-1), 1) := by decide +kernel
theorem d_BY_at_26 : decode b_BY_at 26 = .ok (.ireturn, 1) := by decide +kernel
abbrev b_BY_inside : ByteArray := prog_2_method_3_code
abbrev y_BY_inside : MethodName := ⟨R_BY, "inside", "(III)I"⟩
abbrev w_BY_inside : List Cond := (.code ⟨"TextTerms$Bytes", "inside", "(III)I"⟩ prog_2_method_3_code 4 (Option.some Jvm.ClassFile.FieldType.int)) :: tt_T
theorem hv_BY_inside : y_BY_inside.cls = R_BY ∧ y_BY_inside.cls ≠ "java/lang/invoke/MethodHandle" ∧ y_BY_inside.cls ≠ "java/lang/invoke/VarHandle" ∧ (parseMethodDescriptor y_BY_inside.desc).map (fun d => d.parameters.length) = some 3 := by decide +kernel
theorem d_BY_inside_0 : decode b_BY_inside 0 = .ok (.iload_n 3, 1) := by decide +kernel
theorem d_BY_inside_1 : decode b_BY_inside 1 = .ok (.ifCond .lt 20, 3) := by decide +kernel
theorem d_BY_inside_4 : decode b_BY_inside 4 = .ok (.iload_n 3, 1) := by decide +kernel
theorem d_BY_inside_5 : decode b_BY_inside 5 = .ok (.iload_n 2, 1) := by decide +kernel
theorem d_BY_inside_6 : decode b_BY_inside 6 = .ok (.iload_n 1, 1) := by decide +kernel
theorem d_BY_inside_7 : decode b_BY_inside 7 = .ok (.isub, 1) := by decide +kernel
theorem d_BY_inside_8 : decode b_BY_inside 8 = .ok (.if_icmp .ge 13, 3) := by decide +kernel
theorem d_BY_inside_11 : decode b_BY_inside 11 = .ok (.aload_n 0, 1) := by decide +kernel
theorem d_BY_inside_12 : decode b_BY_inside 12 = .ok (.iload_n 1, 1) := by decide +kernel
theorem d_BY_inside_13 : decode b_BY_inside 13 = .ok (.iload_n 3, 1) := by decide +kernel
theorem d_BY_inside_14 : decode b_BY_inside 14 = .ok (.iadd, 1) := by decide +kernel
theorem d_BY_inside_15 : decode b_BY_inside 15 = .ok (.invokevirtual 19, 3) := by decide +kernel
theorem d_BY_inside_18 : decode b_BY_inside 18 = .ok (.goto 4, 3) := by decide +kernel
theorem d_BY_inside_21 : decode b_BY_inside 21 = .ok (.iconst (-1), 1) := by decide +kernel
theorem d_BY_inside_22 : decode b_BY_inside 22 = .ok (.ireturn, 1) := by decide +kernel
abbrev b_BY_behindAll : ByteArray := prog_2_method_4_code
abbrev y_BY_behindAll : MethodName := ⟨R_BY, "behindAll", "(II)I"⟩
abbrev w_BY_behindAll : List Cond := (.code ⟨"TextTerms$Bytes", "behindAll", "(II)I"⟩ prog_2_method_4_code 4 (Option.some Jvm.ClassFile.FieldType.int)) :: tt_T
theorem hv_BY_behindAll : y_BY_behindAll.cls = R_BY ∧ y_BY_behindAll.cls ≠ "java/lang/invoke/MethodHandle" ∧ y_BY_behindAll.cls ≠ "java/lang/invoke/VarHandle" ∧ (parseMethodDescriptor y_BY_behindAll.desc).map (fun d => d.parameters.length) = some 2 := by decide +kernel
theorem d_BY_behindAll_0 : decode b_BY_behindAll 0 = .ok (.iload_n 2, 1) := by decide +kernel
theorem d_BY_behindAll_1 : decode b_BY_behindAll 1 = .ok (.istore_n 3, 1) := by decide +kernel
theorem d_BY_behindAll_2 : decode b_BY_behindAll 2 = .ok (.iload_n 3, 1) := by decide +kernel
theorem d_BY_behindAll_3 : decode b_BY_behindAll 3 = .ok (.aload_n 0, 1) := by decide +kernel
theorem d_BY_behindAll_4 : decode b_BY_behindAll 4 = .ok (.getfield 15, 3) := by decide +kernel
theorem d_BY_behindAll_7 : decode b_BY_behindAll 7 = .ok (.if_icmp .ge 21, 3) := by decide +kernel
theorem d_BY_behindAll_10 : decode b_BY_behindAll 10 = .ok (.aload_n 0, 1) := by decide +kernel
theorem d_BY_behindAll_11 : decode b_BY_behindAll 11 = .ok (.iload_n 3, 1) := by decide +kernel
theorem d_BY_behindAll_12 : decode b_BY_behindAll 12 = .ok (.invokevirtual 19, 3) := by decide +kernel
theorem d_BY_behindAll_15 : decode b_BY_behindAll 15 = .ok (.iload_n 1, 1) := by decide +kernel
theorem d_BY_behindAll_16 : decode b_BY_behindAll 16 = .ok (.invokestatic 23, 3) := by decide +kernel
theorem d_BY_behindAll_19 : decode b_BY_behindAll 19 = .ok (.ifCond .eq 9, 3) := by decide +kernel
theorem d_BY_behindAll_22 : decode b_BY_behindAll 22 = .ok (.iinc 3 1, 3) := by decide +kernel
theorem d_BY_behindAll_25 : decode b_BY_behindAll 25 = .ok (.goto (-23), 3) := by decide +kernel
theorem d_BY_behindAll_28 : decode b_BY_behindAll 28 = .ok (.iload_n 3, 1) := by decide +kernel
theorem d_BY_behindAll_29 : decode b_BY_behindAll 29 = .ok (.ireturn, 1) := by decide +kernel
abbrev b_BY_addFour : ByteArray := prog_2_method_5_code
abbrev y_BY_addFour : MethodName := ⟨R_BY, "addFour", "(I)V"⟩
abbrev w_BY_addFour : List Cond := (.code ⟨"TextTerms$Bytes", "addFour", "(I)V"⟩ prog_2_method_5_code 3 (Option.none : Option Jvm.ClassFile.FieldType)) :: tt_T
theorem hv_BY_addFour : y_BY_addFour.cls = R_BY ∧ y_BY_addFour.cls ≠ "java/lang/invoke/MethodHandle" ∧ y_BY_addFour.cls ≠ "java/lang/invoke/VarHandle" ∧ (parseMethodDescriptor y_BY_addFour.desc).map (fun d => d.parameters.length) = some 1 := by decide +kernel
theorem d_BY_addFour_0 : decode b_BY_addFour 0 = .ok (.bipush 24, 2) := by decide +kernel
theorem d_BY_addFour_2 : decode b_BY_addFour 2 = .ok (.istore_n 2, 1) := by decide +kernel
theorem d_BY_addFour_3 : decode b_BY_addFour 3 = .ok (.iload_n 2, 1) := by decide +kernel
theorem d_BY_addFour_4 : decode b_BY_addFour 4 = .ok (.ifCond .lt 44, 3) := by decide +kernel
theorem d_BY_addFour_7 : decode b_BY_addFour 7 = .ok (.aload_n 0, 1) := by decide +kernel
theorem d_BY_addFour_8 : decode b_BY_addFour 8 = .ok (.getfield 15, 3) := by decide +kernel
theorem d_BY_addFour_11 : decode b_BY_addFour 11 = .ok (.aload_n 0, 1) := by decide +kernel
theorem d_BY_addFour_12 : decode b_BY_addFour 12 = .ok (.getfield 9, 3) := by decide +kernel
theorem d_BY_addFour_15 : decode b_BY_addFour 15 = .ok (.arraylength, 1) := by decide +kernel
theorem d_BY_addFour_16 : decode b_BY_addFour 16 = .ok (.if_icmp .ge 26, 3) := by decide +kernel
theorem d_BY_addFour_19 : decode b_BY_addFour 19 = .ok (.aload_n 0, 1) := by decide +kernel
theorem d_BY_addFour_20 : decode b_BY_addFour 20 = .ok (.getfield 9, 3) := by decide +kernel
theorem d_BY_addFour_23 : decode b_BY_addFour 23 = .ok (.aload_n 0, 1) := by decide +kernel
theorem d_BY_addFour_24 : decode b_BY_addFour 24 = .ok (.getfield 15, 3) := by decide +kernel
theorem d_BY_addFour_27 : decode b_BY_addFour 27 = .ok (.iload_n 1, 1) := by decide +kernel
theorem d_BY_addFour_28 : decode b_BY_addFour 28 = .ok (.iload_n 2, 1) := by decide +kernel
theorem d_BY_addFour_29 : decode b_BY_addFour 29 = .ok (.iushr, 1) := by decide +kernel
theorem d_BY_addFour_30 : decode b_BY_addFour 30 = .ok (.i2b, 1) := by decide +kernel
theorem d_BY_addFour_31 : decode b_BY_addFour 31 = .ok (.bastore, 1) := by decide +kernel
theorem d_BY_addFour_32 : decode b_BY_addFour 32 = .ok (.aload_n 0, 1) := by decide +kernel
theorem d_BY_addFour_33 : decode b_BY_addFour 33 = .ok (.dup, 1) := by decide +kernel
theorem d_BY_addFour_34 : decode b_BY_addFour 34 = .ok (.getfield 15, 3) := by decide +kernel
theorem d_BY_addFour_37 : decode b_BY_addFour 37 = .ok (.iconst 1, 1) := by decide +kernel
theorem d_BY_addFour_38 : decode b_BY_addFour 38 = .ok (.iadd, 1) := by decide +kernel
theorem d_BY_addFour_39 : decode b_BY_addFour 39 = .ok (.putfield 15, 3) := by decide +kernel
theorem d_BY_addFour_42 : decode b_BY_addFour 42 = .ok (.iinc 2 (-8), 3) := by decide +kernel
theorem d_BY_addFour_45 : decode b_BY_addFour 45 = .ok (.goto (-42), 3) := by decide +kernel
theorem d_BY_addFour_48 : decode b_BY_addFour 48 = .ok (.return_, 1) := by decide +kernel
abbrev b_BY_replace : ByteArray := prog_2_method_6_code
abbrev y_BY_replace : MethodName := ⟨R_BY, "replace", "(II)I"⟩
abbrev w_BY_replace : List Cond := (.code ⟨"TextTerms$Bytes", "replace", "(II)I"⟩ prog_2_method_6_code 4 (Option.some Jvm.ClassFile.FieldType.int)) :: tt_T
theorem hv_BY_replace : y_BY_replace.cls = R_BY ∧ y_BY_replace.cls ≠ "java/lang/invoke/MethodHandle" ∧ y_BY_replace.cls ≠ "java/lang/invoke/VarHandle" ∧ (parseMethodDescriptor y_BY_replace.desc).map (fun d => d.parameters.length) = some 2 := by decide +kernel
theorem d_BY_replace_0 : decode b_BY_replace 0 = .ok (.iload_n 1, 1) := by decide +kernel
theorem d_BY_replace_1 : decode b_BY_replace 1 = .ok (.ifCond .lt 22, 3) := by decide +kernel
theorem d_BY_replace_4 : decode b_BY_replace 4 = .ok (.iload_n 1, 1) := by decide +kernel
theorem d_BY_replace_5 : decode b_BY_replace 5 = .ok (.aload_n 0, 1) := by decide +kernel
theorem d_BY_replace_6 : decode b_BY_replace 6 = .ok (.getfield 15, 3) := by decide +kernel
theorem d_BY_replace_9 : decode b_BY_replace 9 = .ok (.if_icmp .ge 14, 3) := by decide +kernel
theorem d_BY_replace_12 : decode b_BY_replace 12 = .ok (.iload_n 2, 1) := by decide +kernel
theorem d_BY_replace_13 : decode b_BY_replace 13 = .ok (.ifCond .lt 10, 3) := by decide +kernel
theorem d_BY_replace_16 : decode b_BY_replace 16 = .ok (.iload_n 2, 1) := by decide +kernel
theorem d_BY_replace_17 : decode b_BY_replace 17 = .ok (.sipush 255, 3) := by decide +kernel
theorem d_BY_replace_20 : decode b_BY_replace 20 = .ok (.if_icmp .le 5, 3) := by decide +kernel
theorem d_BY_replace_23 : decode b_BY_replace 23 = .ok (.iconst (-1), 1) := by decide +kernel
theorem d_BY_replace_24 : decode b_BY_replace 24 = .ok (.ireturn, 1) := by decide +kernel
theorem d_BY_replace_25 : decode b_BY_replace 25 = .ok (.aload_n 0, 1) := by decide +kernel
theorem d_BY_replace_26 : decode b_BY_replace 26 = .ok (.iload_n 1, 1) := by decide +kernel
theorem d_BY_replace_27 : decode b_BY_replace 27 = .ok (.invokevirtual 19, 3) := by decide +kernel
theorem d_BY_replace_30 : decode b_BY_replace 30 = .ok (.istore_n 3, 1) := by decide +kernel
theorem d_BY_replace_31 : decode b_BY_replace 31 = .ok (.aload_n 0, 1) := by decide +kernel
theorem d_BY_replace_32 : decode b_BY_replace 32 = .ok (.getfield 9, 3) := by decide +kernel
theorem d_BY_replace_35 : decode b_BY_replace 35 = .ok (.iload_n 1, 1) := by decide +kernel
theorem d_BY_replace_36 : decode b_BY_replace 36 = .ok (.iload_n 2, 1) := by decide +kernel
theorem d_BY_replace_37 : decode b_BY_replace 37 = .ok (.i2b, 1) := by decide +kernel
theorem d_BY_replace_38 : decode b_BY_replace 38 = .ok (.bastore, 1) := by decide +kernel
theorem d_BY_replace_39 : decode b_BY_replace 39 = .ok (.iload_n 3, 1) := by decide +kernel
theorem d_BY_replace_40 : decode b_BY_replace 40 = .ok (.ireturn, 1) := by decide +kernel
abbrev b_BY_copyFrom : ByteArray := prog_2_method_7_code
abbrev y_BY_copyFrom : MethodName := ⟨R_BY, "copyFrom", "(LTextTerms$Bytes;)V"⟩
abbrev w_BY_copyFrom : List Cond := (.code ⟨"TextTerms$Bytes", "copyFrom", "(LTextTerms$Bytes;)V"⟩ prog_2_method_7_code 2 (Option.none : Option Jvm.ClassFile.FieldType)) :: tt_T
theorem hv_BY_copyFrom : y_BY_copyFrom.cls = R_BY ∧ y_BY_copyFrom.cls ≠ "java/lang/invoke/MethodHandle" ∧ y_BY_copyFrom.cls ≠ "java/lang/invoke/VarHandle" ∧ (parseMethodDescriptor y_BY_copyFrom.desc).map (fun d => d.parameters.length) = some 1 := by decide +kernel
theorem d_BY_copyFrom_0 : decode b_BY_copyFrom 0 = .ok (.aload_n 0, 1) := by decide +kernel
theorem d_BY_copyFrom_1 : decode b_BY_copyFrom 1 = .ok (.aload_n 1, 1) := by decide +kernel
theorem d_BY_copyFrom_2 : decode b_BY_copyFrom 2 = .ok (.getfield 15, 3) := by decide +kernel
theorem d_BY_copyFrom_5 : decode b_BY_copyFrom 5 = .ok (.putfield 15, 3) := by decide +kernel
theorem d_BY_copyFrom_8 : decode b_BY_copyFrom 8 = .ok (.aload_n 1, 1) := by decide +kernel
theorem d_BY_copyFrom_9 : decode b_BY_copyFrom 9 = .ok (.getfield 9, 3) := by decide +kernel
theorem d_BY_copyFrom_12 : decode b_BY_copyFrom 12 = .ok (.iconst 0, 1) := by decide +kernel
theorem d_BY_copyFrom_13 : decode b_BY_copyFrom 13 = .ok (.aload_n 0, 1) := by decide +kernel
theorem d_BY_copyFrom_14 : decode b_BY_copyFrom 14 = .ok (.getfield 9, 3) := by decide +kernel
theorem d_BY_copyFrom_17 : decode b_BY_copyFrom 17 = .ok (.iconst 0, 1) := by decide +kernel
theorem d_BY_copyFrom_18 : decode b_BY_copyFrom 18 = .ok (.aload_n 0, 1) := by decide +kernel
theorem d_BY_copyFrom_19 : decode b_BY_copyFrom 19 = .ok (.getfield 15, 3) := by decide +kernel
theorem d_BY_copyFrom_22 : decode b_BY_copyFrom 22 = .ok (.invokestatic 29, 3) := by decide +kernel
theorem d_BY_copyFrom_25 : decode b_BY_copyFrom 25 = .ok (.return_, 1) := by decide +kernel
