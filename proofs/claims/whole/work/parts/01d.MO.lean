abbrev b_MO_init : ByteArray := prog_12_method_1_code
abbrev y_MO_init : MethodName := ⟨R_MO, "<init>", "()V"⟩
abbrev w_MO_init : List Cond := (.code ⟨"TextTermsModel", "<init>", "()V"⟩ prog_12_method_1_code 1 (Option.none : Option Jvm.ClassFile.FieldType)) :: tt_T
theorem hv_MO_init : y_MO_init.cls = R_MO ∧ y_MO_init.cls ≠ "java/lang/invoke/MethodHandle" ∧ y_MO_init.cls ≠ "java/lang/invoke/VarHandle" ∧ (parseMethodDescriptor y_MO_init.desc).map (fun d => d.parameters.length) = some 0 := by decide +kernel
theorem d_MO_init_0 : decode b_MO_init 0 = .ok (.aload_n 0, 1) := by decide +kernel
theorem d_MO_init_1 : decode b_MO_init 1 = .ok (.invokespecial 1, 3) := by decide +kernel
theorem d_MO_init_4 : decode b_MO_init 4 = .ok (.aload_n 0, 1) := by decide +kernel
theorem d_MO_init_5 : decode b_MO_init 5 = .ok (.sipush 16384, 3) := by decide +kernel
theorem d_MO_init_8 : decode b_MO_init 8 = .ok (.newarray .byte, 2) := by decide +kernel
theorem d_MO_init_10 : decode b_MO_init 10 = .ok (.putfield 7, 3) := by decide +kernel
theorem d_MO_init_13 : decode b_MO_init 13 = .ok (.aload_n 0, 1) := by decide +kernel
theorem d_MO_init_14 : decode b_MO_init 14 = .ok (.sipush 16384, 3) := by decide +kernel
theorem d_MO_init_17 : decode b_MO_init 17 = .ok (.newarray .byte, 2) := by decide +kernel
theorem d_MO_init_19 : decode b_MO_init 19 = .ok (.putfield 13, 3) := by decide +kernel
theorem d_MO_init_22 : decode b_MO_init 22 = .ok (.aload_n 0, 1) := by decide +kernel
theorem d_MO_init_23 : decode b_MO_init 23 = .ok (.sipush 4096, 3) := by decide +kernel
theorem d_MO_init_26 : decode b_MO_init 26 = .ok (.newarray .byte, 2) := by decide +kernel
theorem d_MO_init_28 : decode b_MO_init 28 = .ok (.putfield 16, 3) := by decide +kernel
theorem d_MO_init_31 : decode b_MO_init 31 = .ok (.aload_n 0, 1) := by decide +kernel
theorem d_MO_init_32 : decode b_MO_init 32 = .ok (.sipush 4096, 3) := by decide +kernel
theorem d_MO_init_35 : decode b_MO_init 35 = .ok (.newarray .int, 2) := by decide +kernel
theorem d_MO_init_37 : decode b_MO_init 37 = .ok (.putfield 19, 3) := by decide +kernel
theorem d_MO_init_40 : decode b_MO_init 40 = .ok (.aload_n 0, 1) := by decide +kernel
theorem d_MO_init_41 : decode b_MO_init 41 = .ok (.sipush 4096, 3) := by decide +kernel
theorem d_MO_init_44 : decode b_MO_init 44 = .ok (.newarray .int, 2) := by decide +kernel
theorem d_MO_init_46 : decode b_MO_init 46 = .ok (.putfield 23, 3) := by decide +kernel
theorem d_MO_init_49 : decode b_MO_init 49 = .ok (.aload_n 0, 1) := by decide +kernel
theorem d_MO_init_50 : decode b_MO_init 50 = .ok (.sipush 4096, 3) := by decide +kernel
theorem d_MO_init_53 : decode b_MO_init 53 = .ok (.newarray .int, 2) := by decide +kernel
theorem d_MO_init_55 : decode b_MO_init 55 = .ok (.putfield 26, 3) := by decide +kernel
theorem d_MO_init_58 : decode b_MO_init 58 = .ok (.aload_n 0, 1) := by decide +kernel
theorem d_MO_init_59 : decode b_MO_init 59 = .ok (.sipush 4096, 3) := by decide +kernel
theorem d_MO_init_62 : decode b_MO_init 62 = .ok (.newarray .int, 2) := by decide +kernel
theorem d_MO_init_64 : decode b_MO_init 64 = .ok (.putfield 29, 3) := by decide +kernel
theorem d_MO_init_67 : decode b_MO_init 67 = .ok (.aload_n 0, 1) := by decide +kernel
theorem d_MO_init_68 : decode b_MO_init 68 = .ok (.sipush 4096, 3) := by decide +kernel
theorem d_MO_init_71 : decode b_MO_init 71 = .ok (.newarray .int, 2) := by decide +kernel
theorem d_MO_init_73 : decode b_MO_init 73 = .ok (.putfield 32, 3) := by decide +kernel
theorem d_MO_init_76 : decode b_MO_init 76 = .ok (.aload_n 0, 1) := by decide +kernel
theorem d_MO_init_77 : decode b_MO_init 77 = .ok (.bipush 80, 2) := by decide +kernel
theorem d_MO_init_79 : decode b_MO_init 79 = .ok (.newarray .int, 2) := by decide +kernel
theorem d_MO_init_81 : decode b_MO_init 81 = .ok (.putfield 35, 3) := by decide +kernel
theorem d_MO_init_84 : decode b_MO_init 84 = .ok (.return_, 1) := by decide +kernel
abbrev b_MO_thrown : ByteArray := prog_12_method_2_code
abbrev y_MO_thrown : MethodName := ⟨R_MO, "thrown", "()I"⟩
abbrev w_MO_thrown : List Cond := (.code ⟨"TextTermsModel", "thrown", "()I"⟩ prog_12_method_2_code 1 (Option.some Jvm.ClassFile.FieldType.int)) :: tt_T
theorem hv_MO_thrown : y_MO_thrown.cls = R_MO ∧ y_MO_thrown.cls ≠ "java/lang/invoke/MethodHandle" ∧ y_MO_thrown.cls ≠ "java/lang/invoke/VarHandle" ∧ (parseMethodDescriptor y_MO_thrown.desc).map (fun d => d.parameters.length) = some 0 := by decide +kernel
theorem d_MO_thrown_0 : decode b_MO_thrown 0 = .ok (.aload_n 0, 1) := by decide +kernel
theorem d_MO_thrown_1 : decode b_MO_thrown 1 = .ok (.getfield 38, 3) := by decide +kernel
theorem d_MO_thrown_4 : decode b_MO_thrown 4 = .ok (.ireturn, 1) := by decide +kernel
abbrev b_MO_take : ByteArray := prog_12_method_3_code
abbrev y_MO_take : MethodName := ⟨R_MO, "take", "(I)V"⟩
abbrev w_MO_take : List Cond := (.code ⟨"TextTermsModel", "take", "(I)V"⟩ prog_12_method_3_code 3 (Option.none : Option Jvm.ClassFile.FieldType)) :: tt_T
theorem hv_MO_take : y_MO_take.cls = R_MO ∧ y_MO_take.cls ≠ "java/lang/invoke/MethodHandle" ∧ y_MO_take.cls ≠ "java/lang/invoke/VarHandle" ∧ (parseMethodDescriptor y_MO_take.desc).map (fun d => d.parameters.length) = some 1 := by decide +kernel
theorem d_MO_take_0 : decode b_MO_take 0 = .ok (.bipush 24, 2) := by decide +kernel
theorem d_MO_take_2 : decode b_MO_take 2 = .ok (.istore_n 2, 1) := by decide +kernel
theorem d_MO_take_3 : decode b_MO_take 3 = .ok (.iload_n 2, 1) := by decide +kernel
theorem d_MO_take_4 : decode b_MO_take 4 = .ok (.ifCond .lt 32, 3) := by decide +kernel
theorem d_MO_take_7 : decode b_MO_take 7 = .ok (.aload_n 0, 1) := by decide +kernel
theorem d_MO_take_8 : decode b_MO_take 8 = .ok (.getfield 7, 3) := by decide +kernel
theorem d_MO_take_11 : decode b_MO_take 11 = .ok (.aload_n 0, 1) := by decide +kernel
theorem d_MO_take_12 : decode b_MO_take 12 = .ok (.getfield 42, 3) := by decide +kernel
theorem d_MO_take_15 : decode b_MO_take 15 = .ok (.iload_n 1, 1) := by decide +kernel
theorem d_MO_take_16 : decode b_MO_take 16 = .ok (.iload_n 2, 1) := by decide +kernel
theorem d_MO_take_17 : decode b_MO_take 17 = .ok (.ishr, 1) := by decide +kernel
theorem d_MO_take_18 : decode b_MO_take 18 = .ok (.i2b, 1) := by decide +kernel
theorem d_MO_take_19 : decode b_MO_take 19 = .ok (.bastore, 1) := by decide +kernel
theorem d_MO_take_20 : decode b_MO_take 20 = .ok (.aload_n 0, 1) := by decide +kernel
theorem d_MO_take_21 : decode b_MO_take 21 = .ok (.dup, 1) := by decide +kernel
theorem d_MO_take_22 : decode b_MO_take 22 = .ok (.getfield 42, 3) := by decide +kernel
theorem d_MO_take_25 : decode b_MO_take 25 = .ok (.iconst 1, 1) := by decide +kernel
theorem d_MO_take_26 : decode b_MO_take 26 = .ok (.iadd, 1) := by decide +kernel
theorem d_MO_take_27 : decode b_MO_take 27 = .ok (.putfield 42, 3) := by decide +kernel
theorem d_MO_take_30 : decode b_MO_take 30 = .ok (.iinc 2 (-8), 3) := by decide +kernel
theorem d_MO_take_33 : decode b_MO_take 33 = .ok (.goto (-30), 3) := by decide +kernel
theorem d_MO_take_36 : decode b_MO_take 36 = .ok (.return_, 1) := by decide +kernel
abbrev b_MO_feed : ByteArray := prog_12_method_4_code
abbrev y_MO_feed : MethodName := ⟨R_MO, "feed", "(IIIII)V"⟩
abbrev w_MO_feed : List Cond := (.code ⟨"TextTermsModel", "feed", "(IIIII)V"⟩ prog_12_method_4_code 6 (Option.none : Option Jvm.ClassFile.FieldType)) :: tt_T
theorem hv_MO_feed : y_MO_feed.cls = R_MO ∧ y_MO_feed.cls ≠ "java/lang/invoke/MethodHandle" ∧ y_MO_feed.cls ≠ "java/lang/invoke/VarHandle" ∧ (parseMethodDescriptor y_MO_feed.desc).map (fun d => d.parameters.length) = some 5 := by decide +kernel
theorem d_MO_feed_0 : decode b_MO_feed 0 = .ok (.aload_n 0, 1) := by decide +kernel
theorem d_MO_feed_1 : decode b_MO_feed 1 = .ok (.aload_n 0, 1) := by decide +kernel
theorem d_MO_feed_2 : decode b_MO_feed 2 = .ok (.getfield 42, 3) := by decide +kernel
theorem d_MO_feed_5 : decode b_MO_feed 5 = .ok (.bipush 20, 2) := by decide +kernel
theorem d_MO_feed_7 : decode b_MO_feed 7 = .ok (.iadd, 1) := by decide +kernel
theorem d_MO_feed_8 : decode b_MO_feed 8 = .ok (.sipush 16384, 3) := by decide +kernel
theorem d_MO_feed_11 : decode b_MO_feed 11 = .ok (.if_icmp .le 7, 3) := by decide +kernel
theorem d_MO_feed_14 : decode b_MO_feed 14 = .ok (.iconst 1, 1) := by decide +kernel
theorem d_MO_feed_15 : decode b_MO_feed 15 = .ok (.goto 4, 3) := by decide +kernel
theorem d_MO_feed_18 : decode b_MO_feed 18 = .ok (.iconst 0, 1) := by decide +kernel
theorem d_MO_feed_19 : decode b_MO_feed 19 = .ok (.putfield 38, 3) := by decide +kernel
theorem d_MO_feed_22 : decode b_MO_feed 22 = .ok (.aload_n 0, 1) := by decide +kernel
theorem d_MO_feed_23 : decode b_MO_feed 23 = .ok (.getfield 38, 3) := by decide +kernel
theorem d_MO_feed_26 : decode b_MO_feed 26 = .ok (.ifCond .ne 30, 3) := by decide +kernel
theorem d_MO_feed_29 : decode b_MO_feed 29 = .ok (.aload_n 0, 1) := by decide +kernel
theorem d_MO_feed_30 : decode b_MO_feed 30 = .ok (.iload_n 1, 1) := by decide +kernel
theorem d_MO_feed_31 : decode b_MO_feed 31 = .ok (.invokevirtual 45, 3) := by decide +kernel
theorem d_MO_feed_34 : decode b_MO_feed 34 = .ok (.aload_n 0, 1) := by decide +kernel
theorem d_MO_feed_35 : decode b_MO_feed 35 = .ok (.iload_n 2, 1) := by decide +kernel
theorem d_MO_feed_36 : decode b_MO_feed 36 = .ok (.invokevirtual 45, 3) := by decide +kernel
theorem d_MO_feed_39 : decode b_MO_feed 39 = .ok (.aload_n 0, 1) := by decide +kernel
theorem d_MO_feed_40 : decode b_MO_feed 40 = .ok (.iload_n 3, 1) := by decide +kernel
theorem d_MO_feed_41 : decode b_MO_feed 41 = .ok (.invokevirtual 45, 3) := by decide +kernel
theorem d_MO_feed_44 : decode b_MO_feed 44 = .ok (.aload_n 0, 1) := by decide +kernel
theorem d_MO_feed_45 : decode b_MO_feed 45 = .ok (.iload 4, 2) := by decide +kernel
theorem d_MO_feed_47 : decode b_MO_feed 47 = .ok (.invokevirtual 45, 3) := by decide +kernel
theorem d_MO_feed_50 : decode b_MO_feed 50 = .ok (.aload_n 0, 1) := by decide +kernel
theorem d_MO_feed_51 : decode b_MO_feed 51 = .ok (.iload 5, 2) := by decide +kernel
theorem d_MO_feed_53 : decode b_MO_feed 53 = .ok (.invokevirtual 45, 3) := by decide +kernel
theorem d_MO_feed_56 : decode b_MO_feed 56 = .ok (.return_, 1) := by decide +kernel
abbrev b_MO_end : ByteArray := prog_12_method_5_code
abbrev y_MO_end : MethodName := ⟨R_MO, "end", "(I)I"⟩
abbrev w_MO_end : List Cond := (.code ⟨"TextTermsModel", "end", "(I)I"⟩ prog_12_method_5_code 3 (Option.some Jvm.ClassFile.FieldType.int)) :: tt_T
theorem hv_MO_end : y_MO_end.cls = R_MO ∧ y_MO_end.cls ≠ "java/lang/invoke/MethodHandle" ∧ y_MO_end.cls ≠ "java/lang/invoke/VarHandle" ∧ (parseMethodDescriptor y_MO_end.desc).map (fun d => d.parameters.length) = some 1 := by decide +kernel
theorem d_MO_end_0 : decode b_MO_end 0 = .ok (.aload_n 0, 1) := by decide +kernel
theorem d_MO_end_1 : decode b_MO_end 1 = .ok (.iload_n 1, 1) := by decide +kernel
theorem d_MO_end_2 : decode b_MO_end 2 = .ok (.ifCond .lt 11, 3) := by decide +kernel
theorem d_MO_end_5 : decode b_MO_end 5 = .ok (.iload_n 1, 1) := by decide +kernel
theorem d_MO_end_6 : decode b_MO_end 6 = .ok (.aload_n 0, 1) := by decide +kernel
theorem d_MO_end_7 : decode b_MO_end 7 = .ok (.getfield 42, 3) := by decide +kernel
theorem d_MO_end_10 : decode b_MO_end 10 = .ok (.if_icmp .le 7, 3) := by decide +kernel
theorem d_MO_end_13 : decode b_MO_end 13 = .ok (.iconst 1, 1) := by decide +kernel
theorem d_MO_end_14 : decode b_MO_end 14 = .ok (.goto 4, 3) := by decide +kernel
theorem d_MO_end_17 : decode b_MO_end 17 = .ok (.iconst 0, 1) := by decide +kernel
theorem d_MO_end_18 : decode b_MO_end 18 = .ok (.putfield 38, 3) := by decide +kernel
theorem d_MO_end_21 : decode b_MO_end 21 = .ok (.aload_n 0, 1) := by decide +kernel
theorem d_MO_end_22 : decode b_MO_end 22 = .ok (.getfield 38, 3) := by decide +kernel
theorem d_MO_end_25 : decode b_MO_end 25 = .ok (.ifCond .le 5, 3) := by decide +kernel
theorem d_MO_end_28 : decode b_MO_end 28 = .ok (.iconst 0, 1) := by decide +kernel
theorem d_MO_end_29 : decode b_MO_end 29 = .ok (.ireturn, 1) := by decide +kernel
theorem d_MO_end_30 : decode b_MO_end 30 = .ok (.aload_n 0, 1) := by decide +kernel
theorem d_MO_end_31 : decode b_MO_end 31 = .ok (.getfield 42, 3) := by decide +kernel
theorem d_MO_end_34 : decode b_MO_end 34 = .ok (.istore_n 2, 1) := by decide +kernel
theorem d_MO_end_35 : decode b_MO_end 35 = .ok (.aload_n 0, 1) := by decide +kernel
theorem d_MO_end_36 : decode b_MO_end 36 = .ok (.iload_n 1, 1) := by decide +kernel
theorem d_MO_end_37 : decode b_MO_end 37 = .ok (.putfield 42, 3) := by decide +kernel
theorem d_MO_end_40 : decode b_MO_end 40 = .ok (.iload_n 2, 1) := by decide +kernel
theorem d_MO_end_41 : decode b_MO_end 41 = .ok (.ireturn, 1) := by decide +kernel
abbrev b_MO_change : ByteArray := prog_12_method_6_code
abbrev y_MO_change : MethodName := ⟨R_MO, "change", "(II)I"⟩
abbrev w_MO_change : List Cond := (.code ⟨"TextTermsModel", "change", "(II)I"⟩ prog_12_method_6_code 4 (Option.some Jvm.ClassFile.FieldType.int)) :: tt_T
theorem hv_MO_change : y_MO_change.cls = R_MO ∧ y_MO_change.cls ≠ "java/lang/invoke/MethodHandle" ∧ y_MO_change.cls ≠ "java/lang/invoke/VarHandle" ∧ (parseMethodDescriptor y_MO_change.desc).map (fun d => d.parameters.length) = some 2 := by decide +kernel
theorem d_MO_change_0 : decode b_MO_change 0 = .ok (.aload_n 0, 1) := by decide +kernel
theorem d_MO_change_1 : decode b_MO_change 1 = .ok (.iconst 0, 1) := by decide +kernel
theorem d_MO_change_2 : decode b_MO_change 2 = .ok (.putfield 38, 3) := by decide +kernel
theorem d_MO_change_5 : decode b_MO_change 5 = .ok (.iload_n 1, 1) := by decide +kernel
theorem d_MO_change_6 : decode b_MO_change 6 = .ok (.ifCond .lt 22, 3) := by decide +kernel
theorem d_MO_change_9 : decode b_MO_change 9 = .ok (.iload_n 1, 1) := by decide +kernel
theorem d_MO_change_10 : decode b_MO_change 10 = .ok (.aload_n 0, 1) := by decide +kernel
theorem d_MO_change_11 : decode b_MO_change 11 = .ok (.getfield 42, 3) := by decide +kernel
theorem d_MO_change_14 : decode b_MO_change 14 = .ok (.if_icmp .ge 14, 3) := by decide +kernel
theorem d_MO_change_17 : decode b_MO_change 17 = .ok (.iload_n 2, 1) := by decide +kernel
theorem d_MO_change_18 : decode b_MO_change 18 = .ok (.ifCond .lt 10, 3) := by decide +kernel
theorem d_MO_change_21 : decode b_MO_change 21 = .ok (.iload_n 2, 1) := by decide +kernel
theorem d_MO_change_22 : decode b_MO_change 22 = .ok (.sipush 255, 3) := by decide +kernel
theorem d_MO_change_25 : decode b_MO_change 25 = .ok (.if_icmp .le 5, 3) := by decide +kernel
theorem d_MO_change_28 : decode b_MO_change 28 = .ok (.iconst (-1), 1) := by decide +kernel
theorem d_MO_change_29 : decode b_MO_change 29 = .ok (.ireturn, 1) := by decide +kernel
theorem d_MO_change_30 : decode b_MO_change 30 = .ok (.aload_n 0, 1) := by decide +kernel
theorem d_MO_change_31 : decode b_MO_change 31 = .ok (.getfield 7, 3) := by decide +kernel
theorem d_MO_change_34 : decode b_MO_change 34 = .ok (.iload_n 1, 1) := by decide +kernel
theorem d_MO_change_35 : decode b_MO_change 35 = .ok (.baload, 1) := by decide +kernel
theorem d_MO_change_36 : decode b_MO_change 36 = .ok (.sipush 255, 3) := by decide +kernel
theorem d_MO_change_39 : decode b_MO_change 39 = .ok (.iand, 1) := by decide +kernel
theorem d_MO_change_40 : decode b_MO_change 40 = .ok (.istore_n 3, 1) := by decide +kernel
theorem d_MO_change_41 : decode b_MO_change 41 = .ok (.aload_n 0, 1) := by decide +kernel
theorem d_MO_change_42 : decode b_MO_change 42 = .ok (.getfield 7, 3) := by decide +kernel
theorem d_MO_change_45 : decode b_MO_change 45 = .ok (.iload_n 1, 1) := by decide +kernel
theorem d_MO_change_46 : decode b_MO_change 46 = .ok (.iload_n 2, 1) := by decide +kernel
theorem d_MO_change_47 : decode b_MO_change 47 = .ok (.i2b, 1) := by decide +kernel
theorem d_MO_change_48 : decode b_MO_change 48 = .ok (.bastore, 1) := by decide +kernel
theorem d_MO_change_49 : decode b_MO_change 49 = .ok (.iload_n 3, 1) := by decide +kernel
theorem d_MO_change_50 : decode b_MO_change 50 = .ok (.ireturn, 1) := by decide +kernel
abbrev b_MO_isLetter : ByteArray := prog_12_method_7_code
abbrev y_MO_isLetter : MethodName := ⟨R_MO, "isLetter", "(I)Z"⟩
abbrev w_MO_isLetter : List Cond := (.code ⟨"TextTermsModel", "isLetter", "(I)Z"⟩ prog_12_method_7_code 1 (Option.some Jvm.ClassFile.FieldType.boolean)) :: tt_T
theorem hv_MO_isLetter : y_MO_isLetter.cls = R_MO ∧ y_MO_isLetter.cls ≠ "java/lang/invoke/MethodHandle" ∧ y_MO_isLetter.cls ≠ "java/lang/invoke/VarHandle" ∧ (parseMethodDescriptor y_MO_isLetter.desc).map (fun d => d.parameters.length) = some 1 := by decide +kernel
theorem d_MO_isLetter_0 : decode b_MO_isLetter 0 = .ok (.iload_n 0, 1) := by decide +kernel
theorem d_MO_isLetter_1 : decode b_MO_isLetter 1 = .ok (.bipush 97, 2) := by decide +kernel
theorem d_MO_isLetter_3 : decode b_MO_isLetter 3 = .ok (.if_icmp .lt 9, 3) := by decide +kernel
theorem d_MO_isLetter_6 : decode b_MO_isLetter 6 = .ok (.iload_n 0, 1) := by decide +kernel
theorem d_MO_isLetter_7 : decode b_MO_isLetter 7 = .ok (.bipush 122, 2) := by decide +kernel
theorem d_MO_isLetter_9 : decode b_MO_isLetter 9 = .ok (.if_icmp .le 21, 3) := by decide +kernel
theorem d_MO_isLetter_12 : decode b_MO_isLetter 12 = .ok (.iload_n 0, 1) := by decide +kernel
theorem d_MO_isLetter_13 : decode b_MO_isLetter 13 = .ok (.bipush 65, 2) := by decide +kernel
theorem d_MO_isLetter_15 : decode b_MO_isLetter 15 = .ok (.if_icmp .lt 9, 3) := by decide +kernel
theorem d_MO_isLetter_18 : decode b_MO_isLetter 18 = .ok (.iload_n 0, 1) := by decide +kernel
theorem d_MO_isLetter_19 : decode b_MO_isLetter 19 = .ok (.bipush 90, 2) := by decide +kernel
theorem d_MO_isLetter_21 : decode b_MO_isLetter 21 = .ok (.if_icmp .le 9, 3) := by decide +kernel
theorem d_MO_isLetter_24 : decode b_MO_isLetter 24 = .ok (.iload_n 0, 1) := by decide +kernel
theorem d_MO_isLetter_25 : decode b_MO_isLetter 25 = .ok (.bipush 95, 2) := by decide +kernel
theorem d_MO_isLetter_27 : decode b_MO_isLetter 27 = .ok (.if_icmp .ne 7, 3) := by decide +kernel
theorem d_MO_isLetter_30 : decode b_MO_isLetter 30 = .ok (.iconst 1, 1) := by decide +kernel
theorem d_MO_isLetter_31 : decode b_MO_isLetter 31 = .ok (.goto 4, 3) := by decide +kernel
theorem d_MO_isLetter_34 : decode b_MO_isLetter 34 = .ok (.iconst 0, 1) := by decide +kernel
theorem d_MO_isLetter_35 : decode b_MO_isLetter 35 = .ok (.ireturn, 1) := by decide +kernel
abbrev b_MO_isDigit : ByteArray := prog_12_method_8_code
abbrev y_MO_isDigit : MethodName := ⟨R_MO, "isDigit", "(I)Z"⟩
abbrev w_MO_isDigit : List Cond := (.code ⟨"TextTermsModel", "isDigit", "(I)Z"⟩ prog_12_method_8_code 1 (Option.some Jvm.ClassFile.FieldType.boolean)) :: tt_T
theorem hv_MO_isDigit : y_MO_isDigit.cls = R_MO ∧ y_MO_isDigit.cls ≠ "java/lang/invoke/MethodHandle" ∧ y_MO_isDigit.cls ≠ "java/lang/invoke/VarHandle" ∧ (parseMethodDescriptor y_MO_isDigit.desc).map (fun d => d.parameters.length) = some 1 := by decide +kernel
theorem d_MO_isDigit_0 : decode b_MO_isDigit 0 = .ok (.iload_n 0, 1) := by decide +kernel
theorem d_MO_isDigit_1 : decode b_MO_isDigit 1 = .ok (.bipush 48, 2) := by decide +kernel
theorem d_MO_isDigit_3 : decode b_MO_isDigit 3 = .ok (.if_icmp .lt 13, 3) := by decide +kernel
theorem d_MO_isDigit_6 : decode b_MO_isDigit 6 = .ok (.iload_n 0, 1) := by decide +kernel
theorem d_MO_isDigit_7 : decode b_MO_isDigit 7 = .ok (.bipush 57, 2) := by decide +kernel
theorem d_MO_isDigit_9 : decode b_MO_isDigit 9 = .ok (.if_icmp .gt 7, 3) := by decide +kernel
theorem d_MO_isDigit_12 : decode b_MO_isDigit 12 = .ok (.iconst 1, 1) := by decide +kernel
theorem d_MO_isDigit_13 : decode b_MO_isDigit 13 = .ok (.goto 4, 3) := by decide +kernel
theorem d_MO_isDigit_16 : decode b_MO_isDigit 16 = .ok (.iconst 0, 1) := by decide +kernel
theorem d_MO_isDigit_17 : decode b_MO_isDigit 17 = .ok (.ireturn, 1) := by decide +kernel
abbrev b_MO_hex : ByteArray := prog_12_method_9_code
abbrev y_MO_hex : MethodName := ⟨R_MO, "hex", "(I)I"⟩
abbrev w_MO_hex : List Cond := (.code ⟨"TextTermsModel", "hex", "(I)I"⟩ prog_12_method_9_code 1 (Option.some Jvm.ClassFile.FieldType.int)) :: tt_T
theorem hv_MO_hex : y_MO_hex.cls = R_MO ∧ y_MO_hex.cls ≠ "java/lang/invoke/MethodHandle" ∧ y_MO_hex.cls ≠ "java/lang/invoke/VarHandle" ∧ (parseMethodDescriptor y_MO_hex.desc).map (fun d => d.parameters.length) = some 1 := by decide +kernel
theorem d_MO_hex_0 : decode b_MO_hex 0 = .ok (.iload_n 0, 1) := by decide +kernel
theorem d_MO_hex_1 : decode b_MO_hex 1 = .ok (.invokestatic 49, 3) := by decide +kernel
theorem d_MO_hex_4 : decode b_MO_hex 4 = .ok (.ifCond .eq 10, 3) := by decide +kernel
theorem d_MO_hex_7 : decode b_MO_hex 7 = .ok (.iload_n 0, 1) := by decide +kernel
theorem d_MO_hex_8 : decode b_MO_hex 8 = .ok (.bipush 48, 2) := by decide +kernel
theorem d_MO_hex_10 : decode b_MO_hex 10 = .ok (.isub, 1) := by decide +kernel
theorem d_MO_hex_11 : decode b_MO_hex 11 = .ok (.goto 48, 3) := by decide +kernel
theorem d_MO_hex_14 : decode b_MO_hex 14 = .ok (.iload_n 0, 1) := by decide +kernel
theorem d_MO_hex_15 : decode b_MO_hex 15 = .ok (.bipush 97, 2) := by decide +kernel
theorem d_MO_hex_17 : decode b_MO_hex 17 = .ok (.if_icmp .lt 19, 3) := by decide +kernel
theorem d_MO_hex_20 : decode b_MO_hex 20 = .ok (.iload_n 0, 1) := by decide +kernel
theorem d_MO_hex_21 : decode b_MO_hex 21 = .ok (.bipush 102, 2) := by decide +kernel
theorem d_MO_hex_23 : decode b_MO_hex 23 = .ok (.if_icmp .gt 13, 3) := by decide +kernel
theorem d_MO_hex_26 : decode b_MO_hex 26 = .ok (.iload_n 0, 1) := by decide +kernel
theorem d_MO_hex_27 : decode b_MO_hex 27 = .ok (.bipush 97, 2) := by decide +kernel
theorem d_MO_hex_29 : decode b_MO_hex 29 = .ok (.isub, 1) := by decide +kernel
theorem d_MO_hex_30 : decode b_MO_hex 30 = .ok (.bipush 10, 2) := by decide +kernel
theorem d_MO_hex_32 : decode b_MO_hex 32 = .ok (.iadd, 1) := by decide +kernel
theorem d_MO_hex_33 : decode b_MO_hex 33 = .ok (.goto 26, 3) := by decide +kernel
theorem d_MO_hex_36 : decode b_MO_hex 36 = .ok (.iload_n 0, 1) := by decide +kernel
theorem d_MO_hex_37 : decode b_MO_hex 37 = .ok (.bipush 65, 2) := by decide +kernel
theorem d_MO_hex_39 : decode b_MO_hex 39 = .ok (.if_icmp .lt 19, 3) := by decide +kernel
theorem d_MO_hex_42 : decode b_MO_hex 42 = .ok (.iload_n 0, 1) := by decide +kernel
theorem d_MO_hex_43 : decode b_MO_hex 43 = .ok (.bipush 70, 2) := by decide +kernel
theorem d_MO_hex_45 : decode b_MO_hex 45 = .ok (.if_icmp .gt 13, 3) := by decide +kernel
theorem d_MO_hex_48 : decode b_MO_hex 48 = .ok (.iload_n 0, 1) := by decide +kernel
theorem d_MO_hex_49 : decode b_MO_hex 49 = .ok (.bipush 65, 2) := by decide +kernel
theorem d_MO_hex_51 : decode b_MO_hex 51 = .ok (.isub, 1) := by decide +kernel
theorem d_MO_hex_52 : decode b_MO_hex 52 = .ok (.bipush 10, 2) := by decide +kernel
theorem d_MO_hex_54 : decode b_MO_hex 54 = .ok (.iadd, 1) := by decide +kernel
theorem d_MO_hex_55 : decode b_MO_hex 55 = .ok (.goto 4, 3) := by decide +kernel
theorem d_MO_hex_58 : decode b_MO_hex 58 = .ok (.iconst (-1), 1) := by decide +kernel
theorem d_MO_hex_59 : decode b_MO_hex 59 = .ok (.ireturn, 1) := by decide +kernel
abbrev b_MO_look : ByteArray := prog_12_method_10_code
abbrev y_MO_look : MethodName := ⟨R_MO, "look", "(I)I"⟩
abbrev w_MO_look : List Cond := (.code ⟨"TextTermsModel", "look", "(I)I"⟩ prog_12_method_10_code 2 (Option.some Jvm.ClassFile.FieldType.int)) :: tt_T
theorem hv_MO_look : y_MO_look.cls = R_MO ∧ y_MO_look.cls ≠ "java/lang/invoke/MethodHandle" ∧ y_MO_look.cls ≠ "java/lang/invoke/VarHandle" ∧ (parseMethodDescriptor y_MO_look.desc).map (fun d => d.parameters.length) = some 1 := by decide +kernel
theorem d_MO_look_0 : decode b_MO_look 0 = .ok (.iload_n 1, 1) := by decide +kernel
theorem d_MO_look_1 : decode b_MO_look 1 = .ok (.aload_n 0, 1) := by decide +kernel
theorem d_MO_look_2 : decode b_MO_look 2 = .ok (.getfield 53, 3) := by decide +kernel
theorem d_MO_look_5 : decode b_MO_look 5 = .ok (.if_icmp .ge 16, 3) := by decide +kernel
theorem d_MO_look_8 : decode b_MO_look 8 = .ok (.aload_n 0, 1) := by decide +kernel
theorem d_MO_look_9 : decode b_MO_look 9 = .ok (.getfield 13, 3) := by decide +kernel
theorem d_MO_look_12 : decode b_MO_look 12 = .ok (.iload_n 1, 1) := by decide +kernel
theorem d_MO_look_13 : decode b_MO_look 13 = .ok (.baload, 1) := by decide +kernel
theorem d_MO_look_14 : decode b_MO_look 14 = .ok (.sipush 255, 3) := by decide +kernel
theorem d_MO_look_17 : decode b_MO_look 17 = .ok (.iand, 1) := by decide +kernel
theorem d_MO_look_18 : decode b_MO_look 18 = .ok (.goto 4, 3) := by decide +kernel
theorem d_MO_look_21 : decode b_MO_look 21 = .ok (.iconst (-1), 1) := by decide +kernel
theorem d_MO_look_22 : decode b_MO_look 22 = .ok (.ireturn, 1) := by decide +kernel
abbrev b_MO_next : ByteArray := prog_12_method_11_code
abbrev y_MO_next : MethodName := ⟨R_MO, "next", "()V"⟩
abbrev w_MO_next : List Cond := (.code ⟨"TextTermsModel", "next", "()V"⟩ prog_12_method_11_code 3 (Option.none : Option Jvm.ClassFile.FieldType)) :: tt_T
theorem hv_MO_next : y_MO_next.cls = R_MO ∧ y_MO_next.cls ≠ "java/lang/invoke/MethodHandle" ∧ y_MO_next.cls ≠ "java/lang/invoke/VarHandle" ∧ (parseMethodDescriptor y_MO_next.desc).map (fun d => d.parameters.length) = some 0 := by decide +kernel
theorem d_MO_next_0 : decode b_MO_next 0 = .ok (.aload_n 0, 1) := by decide +kernel
theorem d_MO_next_1 : decode b_MO_next 1 = .ok (.getfield 56, 3) := by decide +kernel
theorem d_MO_next_4 : decode b_MO_next 4 = .ok (.istore_n 1, 1) := by decide +kernel
theorem d_MO_next_5 : decode b_MO_next 5 = .ok (.aload_n 0, 1) := by decide +kernel
theorem d_MO_next_6 : decode b_MO_next 6 = .ok (.iload_n 1, 1) := by decide +kernel
theorem d_MO_next_7 : decode b_MO_next 7 = .ok (.invokevirtual 59, 3) := by decide +kernel
theorem d_MO_next_10 : decode b_MO_next 10 = .ok (.istore_n 2, 1) := by decide +kernel
theorem d_MO_next_11 : decode b_MO_next 11 = .ok (.iload_n 2, 1) := by decide +kernel
theorem d_MO_next_12 : decode b_MO_next 12 = .ok (.bipush 32, 2) := by decide +kernel
theorem d_MO_next_14 : decode b_MO_next 14 = .ok (.if_icmp .eq 27, 3) := by decide +kernel
theorem d_MO_next_17 : decode b_MO_next 17 = .ok (.iload_n 2, 1) := by decide +kernel
theorem d_MO_next_18 : decode b_MO_next 18 = .ok (.bipush 9, 2) := by decide +kernel
theorem d_MO_next_20 : decode b_MO_next 20 = .ok (.if_icmp .eq 21, 3) := by decide +kernel
theorem d_MO_next_23 : decode b_MO_next 23 = .ok (.iload_n 2, 1) := by decide +kernel
theorem d_MO_next_24 : decode b_MO_next 24 = .ok (.bipush 13, 2) := by decide +kernel
theorem d_MO_next_26 : decode b_MO_next 26 = .ok (.if_icmp .eq 15, 3) := by decide +kernel
theorem d_MO_next_29 : decode b_MO_next 29 = .ok (.iload_n 2, 1) := by decide +kernel
theorem d_MO_next_30 : decode b_MO_next 30 = .ok (.bipush 10, 2) := by decide +kernel
theorem d_MO_next_32 : decode b_MO_next 32 = .ok (.if_icmp .eq 9, 3) := by decide +kernel
theorem d_MO_next_35 : decode b_MO_next 35 = .ok (.iload_n 2, 1) := by decide +kernel
theorem d_MO_next_36 : decode b_MO_next 36 = .ok (.bipush 35, 2) := by decide +kernel
theorem d_MO_next_38 : decode b_MO_next 38 = .ok (.if_icmp .ne 46, 3) := by decide +kernel
theorem d_MO_next_41 : decode b_MO_next 41 = .ok (.iload_n 2, 1) := by decide +kernel
theorem d_MO_next_42 : decode b_MO_next 42 = .ok (.bipush 35, 2) := by decide +kernel
theorem d_MO_next_44 : decode b_MO_next 44 = .ok (.if_icmp .ne 28, 3) := by decide +kernel
theorem d_MO_next_47 : decode b_MO_next 47 = .ok (.iload_n 1, 1) := by decide +kernel
theorem d_MO_next_48 : decode b_MO_next 48 = .ok (.aload_n 0, 1) := by decide +kernel
theorem d_MO_next_49 : decode b_MO_next 49 = .ok (.getfield 53, 3) := by decide +kernel
theorem d_MO_next_52 : decode b_MO_next 52 = .ok (.if_icmp .ge 23, 3) := by decide +kernel
theorem d_MO_next_55 : decode b_MO_next 55 = .ok (.aload_n 0, 1) := by decide +kernel
theorem d_MO_next_56 : decode b_MO_next 56 = .ok (.getfield 13, 3) := by decide +kernel
theorem d_MO_next_59 : decode b_MO_next 59 = .ok (.iload_n 1, 1) := by decide +kernel
theorem d_MO_next_60 : decode b_MO_next 60 = .ok (.baload, 1) := by decide +kernel
theorem d_MO_next_61 : decode b_MO_next 61 = .ok (.bipush 10, 2) := by decide +kernel
theorem d_MO_next_63 : decode b_MO_next 63 = .ok (.if_icmp .eq 12, 3) := by decide +kernel
theorem d_MO_next_66 : decode b_MO_next 66 = .ok (.iinc 1 1, 3) := by decide +kernel
theorem d_MO_next_69 : decode b_MO_next 69 = .ok (.goto (-22), 3) := by decide +kernel
theorem d_MO_next_72 : decode b_MO_next 72 = .ok (.iinc 1 1, 3) := by decide +kernel
theorem d_MO_next_75 : decode b_MO_next 75 = .ok (.aload_n 0, 1) := by decide +kernel
theorem d_MO_next_76 : decode b_MO_next 76 = .ok (.iload_n 1, 1) := by decide +kernel
theorem d_MO_next_77 : decode b_MO_next 77 = .ok (.invokevirtual 59, 3) := by decide +kernel
theorem d_MO_next_80 : decode b_MO_next 80 = .ok (.istore_n 2, 1) := by decide +kernel
theorem d_MO_next_81 : decode b_MO_next 81 = .ok (.goto (-70), 3) := by decide +kernel
theorem d_MO_next_84 : decode b_MO_next 84 = .ok (.aload_n 0, 1) := by decide +kernel
theorem d_MO_next_85 : decode b_MO_next 85 = .ok (.iload_n 1, 1) := by decide +kernel
theorem d_MO_next_86 : decode b_MO_next 86 = .ok (.putfield 63, 3) := by decide +kernel
theorem d_MO_next_89 : decode b_MO_next 89 = .ok (.iload_n 2, 1) := by decide +kernel
theorem d_MO_next_90 : decode b_MO_next 90 = .ok (.bipush 123, 2) := by decide +kernel
theorem d_MO_next_92 : decode b_MO_next 92 = .ok (.if_icmp .eq 27, 3) := by decide +kernel
theorem d_MO_next_95 : decode b_MO_next 95 = .ok (.iload_n 2, 1) := by decide +kernel
theorem d_MO_next_96 : decode b_MO_next 96 = .ok (.bipush 125, 2) := by decide +kernel
theorem d_MO_next_98 : decode b_MO_next 98 = .ok (.if_icmp .eq 21, 3) := by decide +kernel
theorem d_MO_next_101 : decode b_MO_next 101 = .ok (.iload_n 2, 1) := by decide +kernel
theorem d_MO_next_102 : decode b_MO_next 102 = .ok (.bipush 40, 2) := by decide +kernel
theorem d_MO_next_104 : decode b_MO_next 104 = .ok (.if_icmp .eq 15, 3) := by decide +kernel
theorem d_MO_next_107 : decode b_MO_next 107 = .ok (.iload_n 2, 1) := by decide +kernel
theorem d_MO_next_108 : decode b_MO_next 108 = .ok (.bipush 41, 2) := by decide +kernel
theorem d_MO_next_110 : decode b_MO_next 110 = .ok (.if_icmp .eq 9, 3) := by decide +kernel
theorem d_MO_next_113 : decode b_MO_next 113 = .ok (.iload_n 2, 1) := by decide +kernel
theorem d_MO_next_114 : decode b_MO_next 114 = .ok (.bipush 59, 2) := by decide +kernel
theorem d_MO_next_116 : decode b_MO_next 116 = .ok (.if_icmp .ne 18, 3) := by decide +kernel
theorem d_MO_next_119 : decode b_MO_next 119 = .ok (.aload_n 0, 1) := by decide +kernel
theorem d_MO_next_120 : decode b_MO_next 120 = .ok (.iload_n 2, 1) := by decide +kernel
theorem d_MO_next_121 : decode b_MO_next 121 = .ok (.putfield 66, 3) := by decide +kernel
theorem d_MO_next_124 : decode b_MO_next 124 = .ok (.aload_n 0, 1) := by decide +kernel
theorem d_MO_next_125 : decode b_MO_next 125 = .ok (.iload_n 1, 1) := by decide +kernel
theorem d_MO_next_126 : decode b_MO_next 126 = .ok (.iconst 1, 1) := by decide +kernel
theorem d_MO_next_127 : decode b_MO_next 127 = .ok (.iadd, 1) := by decide +kernel
theorem d_MO_next_128 : decode b_MO_next 128 = .ok (.putfield 56, 3) := by decide +kernel
theorem d_MO_next_131 : decode b_MO_next 131 = .ok (.goto 171, 3) := by decide +kernel
theorem d_MO_next_134 : decode b_MO_next 134 = .ok (.iload_n 1, 1) := by decide +kernel
theorem d_MO_next_135 : decode b_MO_next 135 = .ok (.aload_n 0, 1) := by decide +kernel
theorem d_MO_next_136 : decode b_MO_next 136 = .ok (.getfield 53, 3) := by decide +kernel
theorem d_MO_next_139 : decode b_MO_next 139 = .ok (.if_icmp .lt 16, 3) := by decide +kernel
theorem d_MO_next_142 : decode b_MO_next 142 = .ok (.aload_n 0, 1) := by decide +kernel
theorem d_MO_next_143 : decode b_MO_next 143 = .ok (.iconst 5, 1) := by decide +kernel
theorem d_MO_next_144 : decode b_MO_next 144 = .ok (.putfield 66, 3) := by decide +kernel
theorem d_MO_next_147 : decode b_MO_next 147 = .ok (.aload_n 0, 1) := by decide +kernel
theorem d_MO_next_148 : decode b_MO_next 148 = .ok (.iload_n 1, 1) := by decide +kernel
theorem d_MO_next_149 : decode b_MO_next 149 = .ok (.putfield 56, 3) := by decide +kernel
theorem d_MO_next_152 : decode b_MO_next 152 = .ok (.goto 150, 3) := by decide +kernel
theorem d_MO_next_155 : decode b_MO_next 155 = .ok (.iload_n 2, 1) := by decide +kernel
theorem d_MO_next_156 : decode b_MO_next 156 = .ok (.bipush 48, 2) := by decide +kernel
theorem d_MO_next_158 : decode b_MO_next 158 = .ok (.if_icmp .ne 25, 3) := by decide +kernel
theorem d_MO_next_161 : decode b_MO_next 161 = .ok (.aload_n 0, 1) := by decide +kernel
theorem d_MO_next_162 : decode b_MO_next 162 = .ok (.iload_n 1, 1) := by decide +kernel
theorem d_MO_next_163 : decode b_MO_next 163 = .ok (.iconst 1, 1) := by decide +kernel
theorem d_MO_next_164 : decode b_MO_next 164 = .ok (.iadd, 1) := by decide +kernel
theorem d_MO_next_165 : decode b_MO_next 165 = .ok (.invokevirtual 59, 3) := by decide +kernel
theorem d_MO_next_168 : decode b_MO_next 168 = .ok (.bipush 120, 2) := by decide +kernel
theorem d_MO_next_170 : decode b_MO_next 170 = .ok (.if_icmp .ne 13, 3) := by decide +kernel
theorem d_MO_next_173 : decode b_MO_next 173 = .ok (.aload_n 0, 1) := by decide +kernel
theorem d_MO_next_174 : decode b_MO_next 174 = .ok (.iload_n 1, 1) := by decide +kernel
theorem d_MO_next_175 : decode b_MO_next 175 = .ok (.iconst 2, 1) := by decide +kernel
theorem d_MO_next_176 : decode b_MO_next 176 = .ok (.iadd, 1) := by decide +kernel
theorem d_MO_next_177 : decode b_MO_next 177 = .ok (.invokevirtual 69, 3) := by decide +kernel
theorem d_MO_next_180 : decode b_MO_next 180 = .ok (.goto 122, 3) := by decide +kernel
theorem d_MO_next_183 : decode b_MO_next 183 = .ok (.iload_n 2, 1) := by decide +kernel
theorem d_MO_next_184 : decode b_MO_next 184 = .ok (.bipush 45, 2) := by decide +kernel
theorem d_MO_next_186 : decode b_MO_next 186 = .ok (.if_icmp .eq 10, 3) := by decide +kernel
theorem d_MO_next_189 : decode b_MO_next 189 = .ok (.iload_n 2, 1) := by decide +kernel
theorem d_MO_next_190 : decode b_MO_next 190 = .ok (.invokestatic 49, 3) := by decide +kernel
theorem d_MO_next_193 : decode b_MO_next 193 = .ok (.ifCond .eq 23, 3) := by decide +kernel
theorem d_MO_next_196 : decode b_MO_next 196 = .ok (.aload_n 0, 1) := by decide +kernel
theorem d_MO_next_197 : decode b_MO_next 197 = .ok (.iload_n 2, 1) := by decide +kernel
theorem d_MO_next_198 : decode b_MO_next 198 = .ok (.bipush 45, 2) := by decide +kernel
theorem d_MO_next_200 : decode b_MO_next 200 = .ok (.if_icmp .ne 9, 3) := by decide +kernel
theorem d_MO_next_203 : decode b_MO_next 203 = .ok (.iload_n 1, 1) := by decide +kernel
theorem d_MO_next_204 : decode b_MO_next 204 = .ok (.iconst 1, 1) := by decide +kernel
theorem d_MO_next_205 : decode b_MO_next 205 = .ok (.iadd, 1) := by decide +kernel
theorem d_MO_next_206 : decode b_MO_next 206 = .ok (.goto 4, 3) := by decide +kernel
theorem d_MO_next_209 : decode b_MO_next 209 = .ok (.iload_n 1, 1) := by decide +kernel
theorem d_MO_next_210 : decode b_MO_next 210 = .ok (.invokevirtual 72, 3) := by decide +kernel
theorem d_MO_next_213 : decode b_MO_next 213 = .ok (.goto 89, 3) := by decide +kernel
theorem d_MO_next_216 : decode b_MO_next 216 = .ok (.iload_n 2, 1) := by decide +kernel
theorem d_MO_next_217 : decode b_MO_next 217 = .ok (.bipush 34, 2) := by decide +kernel
theorem d_MO_next_219 : decode b_MO_next 219 = .ok (.if_icmp .ne 13, 3) := by decide +kernel
theorem d_MO_next_222 : decode b_MO_next 222 = .ok (.aload_n 0, 1) := by decide +kernel
theorem d_MO_next_223 : decode b_MO_next 223 = .ok (.iload_n 1, 1) := by decide +kernel
theorem d_MO_next_224 : decode b_MO_next 224 = .ok (.iconst 1, 1) := by decide +kernel
theorem d_MO_next_225 : decode b_MO_next 225 = .ok (.iadd, 1) := by decide +kernel
theorem d_MO_next_226 : decode b_MO_next 226 = .ok (.invokevirtual 75, 3) := by decide +kernel
theorem d_MO_next_229 : decode b_MO_next 229 = .ok (.goto 73, 3) := by decide +kernel
theorem d_MO_next_232 : decode b_MO_next 232 = .ok (.iload_n 2, 1) := by decide +kernel
theorem d_MO_next_233 : decode b_MO_next 233 = .ok (.invokestatic 78, 3) := by decide +kernel
theorem d_MO_next_236 : decode b_MO_next 236 = .ok (.ifCond .eq 24, 3) := by decide +kernel
theorem d_MO_next_239 : decode b_MO_next 239 = .ok (.aload_n 0, 1) := by decide +kernel
theorem d_MO_next_240 : decode b_MO_next 240 = .ok (.iconst 4, 1) := by decide +kernel
theorem d_MO_next_241 : decode b_MO_next 241 = .ok (.putfield 66, 3) := by decide +kernel
theorem d_MO_next_244 : decode b_MO_next 244 = .ok (.aload_n 0, 1) := by decide +kernel
theorem d_MO_next_245 : decode b_MO_next 245 = .ok (.aload_n 0, 1) := by decide +kernel
theorem d_MO_next_246 : decode b_MO_next 246 = .ok (.iload_n 1, 1) := by decide +kernel
theorem d_MO_next_247 : decode b_MO_next 247 = .ok (.aload_n 0, 1) := by decide +kernel
theorem d_MO_next_248 : decode b_MO_next 248 = .ok (.getfield 53, 3) := by decide +kernel
theorem d_MO_next_251 : decode b_MO_next 251 = .ok (.invokevirtual 81, 3) := by decide +kernel
theorem d_MO_next_254 : decode b_MO_next 254 = .ok (.putfield 56, 3) := by decide +kernel
theorem d_MO_next_257 : decode b_MO_next 257 = .ok (.goto 45, 3) := by decide +kernel
theorem d_MO_next_260 : decode b_MO_next 260 = .ok (.aload_n 0, 1) := by decide +kernel
theorem d_MO_next_261 : decode b_MO_next 261 = .ok (.aload_n 0, 1) := by decide +kernel
theorem d_MO_next_262 : decode b_MO_next 262 = .ok (.iload_n 1, 1) := by decide +kernel
theorem d_MO_next_263 : decode b_MO_next 263 = .ok (.iconst 1, 1) := by decide +kernel
theorem d_MO_next_264 : decode b_MO_next 264 = .ok (.iadd, 1) := by decide +kernel
theorem d_MO_next_265 : decode b_MO_next 265 = .ok (.iload_n 1, 1) := by decide +kernel
theorem d_MO_next_266 : decode b_MO_next 266 = .ok (.bipush 32, 2) := by decide +kernel
theorem d_MO_next_268 : decode b_MO_next 268 = .ok (.iadd, 1) := by decide +kernel
theorem d_MO_next_269 : decode b_MO_next 269 = .ok (.invokevirtual 81, 3) := by decide +kernel
theorem d_MO_next_272 : decode b_MO_next 272 = .ok (.putfield 56, 3) := by decide +kernel
theorem d_MO_next_275 : decode b_MO_next 275 = .ok (.aload_n 0, 1) := by decide +kernel
theorem d_MO_next_276 : decode b_MO_next 276 = .ok (.iload_n 2, 1) := by decide +kernel
theorem d_MO_next_277 : decode b_MO_next 277 = .ok (.bipush 37, 2) := by decide +kernel
theorem d_MO_next_279 : decode b_MO_next 279 = .ok (.if_icmp .ne 18, 3) := by decide +kernel
theorem d_MO_next_282 : decode b_MO_next 282 = .ok (.aload_n 0, 1) := by decide +kernel
theorem d_MO_next_283 : decode b_MO_next 283 = .ok (.getfield 56, 3) := by decide +kernel
theorem d_MO_next_286 : decode b_MO_next 286 = .ok (.iload_n 1, 1) := by decide +kernel
theorem d_MO_next_287 : decode b_MO_next 287 = .ok (.iconst 1, 1) := by decide +kernel
theorem d_MO_next_288 : decode b_MO_next 288 = .ok (.iadd, 1) := by decide +kernel
theorem d_MO_next_289 : decode b_MO_next 289 = .ok (.if_icmp .le 8, 3) := by decide +kernel
theorem d_MO_next_292 : decode b_MO_next 292 = .ok (.bipush 6, 2) := by decide +kernel
theorem d_MO_next_294 : decode b_MO_next 294 = .ok (.goto 5, 3) := by decide +kernel
theorem d_MO_next_297 : decode b_MO_next 297 = .ok (.bipush 7, 2) := by decide +kernel
theorem d_MO_next_299 : decode b_MO_next 299 = .ok (.putfield 66, 3) := by decide +kernel
theorem d_MO_next_302 : decode b_MO_next 302 = .ok (.return_, 1) := by decide +kernel
abbrev b_MO_named : ByteArray := prog_12_method_12_code
abbrev y_MO_named : MethodName := ⟨R_MO, "named", "(II)I"⟩
abbrev w_MO_named : List Cond := (.code ⟨"TextTermsModel", "named", "(II)I"⟩ prog_12_method_12_code 4 (Option.some Jvm.ClassFile.FieldType.int)) :: tt_T
theorem hv_MO_named : y_MO_named.cls = R_MO ∧ y_MO_named.cls ≠ "java/lang/invoke/MethodHandle" ∧ y_MO_named.cls ≠ "java/lang/invoke/VarHandle" ∧ (parseMethodDescriptor y_MO_named.desc).map (fun d => d.parameters.length) = some 2 := by decide +kernel
theorem d_MO_named_0 : decode b_MO_named 0 = .ok (.iload_n 1, 1) := by decide +kernel
theorem d_MO_named_1 : decode b_MO_named 1 = .ok (.istore_n 3, 1) := by decide +kernel
theorem d_MO_named_2 : decode b_MO_named 2 = .ok (.iload_n 3, 1) := by decide +kernel
theorem d_MO_named_3 : decode b_MO_named 3 = .ok (.iload_n 2, 1) := by decide +kernel
theorem d_MO_named_4 : decode b_MO_named 4 = .ok (.if_icmp .ge 31, 3) := by decide +kernel
theorem d_MO_named_7 : decode b_MO_named 7 = .ok (.aload_n 0, 1) := by decide +kernel
theorem d_MO_named_8 : decode b_MO_named 8 = .ok (.iload_n 3, 1) := by decide +kernel
theorem d_MO_named_9 : decode b_MO_named 9 = .ok (.invokevirtual 59, 3) := by decide +kernel
theorem d_MO_named_12 : decode b_MO_named 12 = .ok (.invokestatic 78, 3) := by decide +kernel
theorem d_MO_named_15 : decode b_MO_named 15 = .ok (.ifCond .ne 14, 3) := by decide +kernel
theorem d_MO_named_18 : decode b_MO_named 18 = .ok (.aload_n 0, 1) := by decide +kernel
theorem d_MO_named_19 : decode b_MO_named 19 = .ok (.iload_n 3, 1) := by decide +kernel
theorem d_MO_named_20 : decode b_MO_named 20 = .ok (.invokevirtual 59, 3) := by decide +kernel
theorem d_MO_named_23 : decode b_MO_named 23 = .ok (.invokestatic 49, 3) := by decide +kernel
theorem d_MO_named_26 : decode b_MO_named 26 = .ok (.ifCond .eq 9, 3) := by decide +kernel
theorem d_MO_named_29 : decode b_MO_named 29 = .ok (.iinc 3 1, 3) := by decide +kernel
theorem d_MO_named_32 : decode b_MO_named 32 = .ok (.goto (-30), 3) := by decide +kernel
theorem d_MO_named_35 : decode b_MO_named 35 = .ok (.iload_n 3, 1) := by decide +kernel
theorem d_MO_named_36 : decode b_MO_named 36 = .ok (.ireturn, 1) := by decide +kernel
abbrev b_MO_bytes : ByteArray := prog_12_method_13_code
abbrev y_MO_bytes : MethodName := ⟨R_MO, "bytes", "(I)V"⟩
abbrev w_MO_bytes : List Cond := (.code ⟨"TextTermsModel", "bytes", "(I)V"⟩ prog_12_method_13_code 3 (Option.none : Option Jvm.ClassFile.FieldType)) :: tt_T
theorem hv_MO_bytes : y_MO_bytes.cls = R_MO ∧ y_MO_bytes.cls ≠ "java/lang/invoke/MethodHandle" ∧ y_MO_bytes.cls ≠ "java/lang/invoke/VarHandle" ∧ (parseMethodDescriptor y_MO_bytes.desc).map (fun d => d.parameters.length) = some 1 := by decide +kernel
theorem d_MO_bytes_0 : decode b_MO_bytes 0 = .ok (.iload_n 1, 1) := by decide +kernel
theorem d_MO_bytes_1 : decode b_MO_bytes 1 = .ok (.istore_n 2, 1) := by decide +kernel
theorem d_MO_bytes_2 : decode b_MO_bytes 2 = .ok (.aload_n 0, 1) := by decide +kernel
theorem d_MO_bytes_3 : decode b_MO_bytes 3 = .ok (.iload_n 2, 1) := by decide +kernel
theorem d_MO_bytes_4 : decode b_MO_bytes 4 = .ok (.invokevirtual 59, 3) := by decide +kernel
theorem d_MO_bytes_7 : decode b_MO_bytes 7 = .ok (.invokestatic 85, 3) := by decide +kernel
theorem d_MO_bytes_10 : decode b_MO_bytes 10 = .ok (.ifCond .lt 9, 3) := by decide +kernel
theorem d_MO_bytes_13 : decode b_MO_bytes 13 = .ok (.iinc 2 1, 3) := by decide +kernel
theorem d_MO_bytes_16 : decode b_MO_bytes 16 = .ok (.goto (-14), 3) := by decide +kernel
theorem d_MO_bytes_19 : decode b_MO_bytes 19 = .ok (.aload_n 0, 1) := by decide +kernel
theorem d_MO_bytes_20 : decode b_MO_bytes 20 = .ok (.iload_n 2, 1) := by decide +kernel
theorem d_MO_bytes_21 : decode b_MO_bytes 21 = .ok (.iload_n 1, 1) := by decide +kernel
theorem d_MO_bytes_22 : decode b_MO_bytes 22 = .ok (.isub, 1) := by decide +kernel
theorem d_MO_bytes_23 : decode b_MO_bytes 23 = .ok (.iconst 2, 1) := by decide +kernel
theorem d_MO_bytes_24 : decode b_MO_bytes 24 = .ok (.irem, 1) := by decide +kernel
theorem d_MO_bytes_25 : decode b_MO_bytes 25 = .ok (.ifCond .ne 7, 3) := by decide +kernel
theorem d_MO_bytes_28 : decode b_MO_bytes 28 = .ok (.iconst 2, 1) := by decide +kernel
theorem d_MO_bytes_29 : decode b_MO_bytes 29 = .ok (.goto 5, 3) := by decide +kernel
theorem d_MO_bytes_32 : decode b_MO_bytes 32 = .ok (.bipush 7, 2) := by decide +kernel
theorem d_MO_bytes_34 : decode b_MO_bytes 34 = .ok (.putfield 66, 3) := by decide +kernel
theorem d_MO_bytes_37 : decode b_MO_bytes 37 = .ok (.aload_n 0, 1) := by decide +kernel
theorem d_MO_bytes_38 : decode b_MO_bytes 38 = .ok (.iload_n 2, 1) := by decide +kernel
theorem d_MO_bytes_39 : decode b_MO_bytes 39 = .ok (.putfield 56, 3) := by decide +kernel
theorem d_MO_bytes_42 : decode b_MO_bytes 42 = .ok (.return_, 1) := by decide +kernel
abbrev b_MO_number : ByteArray := prog_12_method_14_code
abbrev y_MO_number : MethodName := ⟨R_MO, "number", "(I)V"⟩
abbrev w_MO_number : List Cond := (.code ⟨"TextTermsModel", "number", "(I)V"⟩ prog_12_method_14_code 3 (Option.none : Option Jvm.ClassFile.FieldType)) :: tt_T
theorem hv_MO_number : y_MO_number.cls = R_MO ∧ y_MO_number.cls ≠ "java/lang/invoke/MethodHandle" ∧ y_MO_number.cls ≠ "java/lang/invoke/VarHandle" ∧ (parseMethodDescriptor y_MO_number.desc).map (fun d => d.parameters.length) = some 1 := by decide +kernel
theorem d_MO_number_0 : decode b_MO_number 0 = .ok (.iload_n 1, 1) := by decide +kernel
theorem d_MO_number_1 : decode b_MO_number 1 = .ok (.istore_n 2, 1) := by decide +kernel
theorem d_MO_number_2 : decode b_MO_number 2 = .ok (.aload_n 0, 1) := by decide +kernel
theorem d_MO_number_3 : decode b_MO_number 3 = .ok (.iload_n 2, 1) := by decide +kernel
theorem d_MO_number_4 : decode b_MO_number 4 = .ok (.invokevirtual 59, 3) := by decide +kernel
theorem d_MO_number_7 : decode b_MO_number 7 = .ok (.invokestatic 49, 3) := by decide +kernel
theorem d_MO_number_10 : decode b_MO_number 10 = .ok (.ifCond .eq 9, 3) := by decide +kernel
theorem d_MO_number_13 : decode b_MO_number 13 = .ok (.iinc 2 1, 3) := by decide +kernel
theorem d_MO_number_16 : decode b_MO_number 16 = .ok (.goto (-14), 3) := by decide +kernel
theorem d_MO_number_19 : decode b_MO_number 19 = .ok (.aload_n 0, 1) := by decide +kernel
theorem d_MO_number_20 : decode b_MO_number 20 = .ok (.iload_n 2, 1) := by decide +kernel
theorem d_MO_number_21 : decode b_MO_number 21 = .ok (.iload_n 1, 1) := by decide +kernel
theorem d_MO_number_22 : decode b_MO_number 22 = .ok (.if_icmp .le 7, 3) := by decide +kernel
theorem d_MO_number_25 : decode b_MO_number 25 = .ok (.iconst 0, 1) := by decide +kernel
theorem d_MO_number_26 : decode b_MO_number 26 = .ok (.goto 5, 3) := by decide +kernel
theorem d_MO_number_29 : decode b_MO_number 29 = .ok (.bipush 7, 2) := by decide +kernel
theorem d_MO_number_31 : decode b_MO_number 31 = .ok (.putfield 66, 3) := by decide +kernel
theorem d_MO_number_34 : decode b_MO_number 34 = .ok (.aload_n 0, 1) := by decide +kernel
theorem d_MO_number_35 : decode b_MO_number 35 = .ok (.iload_n 2, 1) := by decide +kernel
theorem d_MO_number_36 : decode b_MO_number 36 = .ok (.putfield 56, 3) := by decide +kernel
theorem d_MO_number_39 : decode b_MO_number 39 = .ok (.return_, 1) := by decide +kernel
abbrev b_MO_string : ByteArray := prog_12_method_15_code
abbrev y_MO_string : MethodName := ⟨R_MO, "string", "(I)V"⟩
abbrev w_MO_string : List Cond := (.code ⟨"TextTermsModel", "string", "(I)V"⟩ prog_12_method_15_code 6 (Option.none : Option Jvm.ClassFile.FieldType)) :: tt_T
theorem hv_MO_string : y_MO_string.cls = R_MO ∧ y_MO_string.cls ≠ "java/lang/invoke/MethodHandle" ∧ y_MO_string.cls ≠ "java/lang/invoke/VarHandle" ∧ (parseMethodDescriptor y_MO_string.desc).map (fun d => d.parameters.length) = some 1 := by decide +kernel
theorem d_MO_string_0 : decode b_MO_string 0 = .ok (.iload_n 1, 1) := by decide +kernel
theorem d_MO_string_1 : decode b_MO_string 1 = .ok (.istore_n 2, 1) := by decide +kernel
theorem d_MO_string_2 : decode b_MO_string 2 = .ok (.aload_n 0, 1) := by decide +kernel
theorem d_MO_string_3 : decode b_MO_string 3 = .ok (.iconst 1, 1) := by decide +kernel
theorem d_MO_string_4 : decode b_MO_string 4 = .ok (.putfield 66, 3) := by decide +kernel
theorem d_MO_string_7 : decode b_MO_string 7 = .ok (.aload_n 0, 1) := by decide +kernel
theorem d_MO_string_8 : decode b_MO_string 8 = .ok (.getfield 66, 3) := by decide +kernel
theorem d_MO_string_11 : decode b_MO_string 11 = .ok (.iconst 1, 1) := by decide +kernel
theorem d_MO_string_12 : decode b_MO_string 12 = .ok (.if_icmp .ne 113, 3) := by decide +kernel
theorem d_MO_string_15 : decode b_MO_string 15 = .ok (.aload_n 0, 1) := by decide +kernel
theorem d_MO_string_16 : decode b_MO_string 16 = .ok (.iload_n 2, 1) := by decide +kernel
theorem d_MO_string_17 : decode b_MO_string 17 = .ok (.invokevirtual 59, 3) := by decide +kernel
theorem d_MO_string_20 : decode b_MO_string 20 = .ok (.bipush 34, 2) := by decide +kernel
theorem d_MO_string_22 : decode b_MO_string 22 = .ok (.if_icmp .eq 103, 3) := by decide +kernel
theorem d_MO_string_25 : decode b_MO_string 25 = .ok (.aload_n 0, 1) := by decide +kernel
theorem d_MO_string_26 : decode b_MO_string 26 = .ok (.iload_n 2, 1) := by decide +kernel
theorem d_MO_string_27 : decode b_MO_string 27 = .ok (.invokevirtual 59, 3) := by decide +kernel
theorem d_MO_string_30 : decode b_MO_string 30 = .ok (.istore_n 3, 1) := by decide +kernel
theorem d_MO_string_31 : decode b_MO_string 31 = .ok (.aload_n 0, 1) := by decide +kernel
theorem d_MO_string_32 : decode b_MO_string 32 = .ok (.iload_n 2, 1) := by decide +kernel
theorem d_MO_string_33 : decode b_MO_string 33 = .ok (.iconst 1, 1) := by decide +kernel
theorem d_MO_string_34 : decode b_MO_string 34 = .ok (.iadd, 1) := by decide +kernel
theorem d_MO_string_35 : decode b_MO_string 35 = .ok (.invokevirtual 59, 3) := by decide +kernel
theorem d_MO_string_38 : decode b_MO_string 38 = .ok (.istore 4, 2) := by decide +kernel
theorem d_MO_string_40 : decode b_MO_string 40 = .ok (.iload_n 3, 1) := by decide +kernel
theorem d_MO_string_41 : decode b_MO_string 41 = .ok (.bipush 92, 2) := by decide +kernel
theorem d_MO_string_43 : decode b_MO_string 43 = .ok (.if_icmp .ne 28, 3) := by decide +kernel
theorem d_MO_string_46 : decode b_MO_string 46 = .ok (.iload 4, 2) := by decide +kernel
theorem d_MO_string_48 : decode b_MO_string 48 = .ok (.bipush 92, 2) := by decide +kernel
theorem d_MO_string_50 : decode b_MO_string 50 = .ok (.if_icmp .eq 17, 3) := by decide +kernel
theorem d_MO_string_53 : decode b_MO_string 53 = .ok (.iload 4, 2) := by decide +kernel
theorem d_MO_string_55 : decode b_MO_string 55 = .ok (.bipush 34, 2) := by decide +kernel
theorem d_MO_string_57 : decode b_MO_string 57 = .ok (.if_icmp .eq 10, 3) := by decide +kernel
theorem d_MO_string_60 : decode b_MO_string 60 = .ok (.iload 4, 2) := by decide +kernel
theorem d_MO_string_62 : decode b_MO_string 62 = .ok (.bipush 110, 2) := by decide +kernel
theorem d_MO_string_64 : decode b_MO_string 64 = .ok (.if_icmp .ne 7, 3) := by decide +kernel
theorem d_MO_string_67 : decode b_MO_string 67 = .ok (.iconst 1, 1) := by decide +kernel
theorem d_MO_string_68 : decode b_MO_string 68 = .ok (.goto 4, 3) := by decide +kernel
theorem d_MO_string_71 : decode b_MO_string 71 = .ok (.iconst 0, 1) := by decide +kernel
theorem d_MO_string_72 : decode b_MO_string 72 = .ok (.istore 5, 2) := by decide +kernel
theorem d_MO_string_74 : decode b_MO_string 74 = .ok (.aload_n 0, 1) := by decide +kernel
theorem d_MO_string_75 : decode b_MO_string 75 = .ok (.iload 5, 2) := by decide +kernel
theorem d_MO_string_77 : decode b_MO_string 77 = .ok (.ifCond .ne 21, 3) := by decide +kernel
theorem d_MO_string_80 : decode b_MO_string 80 = .ok (.iload_n 3, 1) := by decide +kernel
theorem d_MO_string_81 : decode b_MO_string 81 = .ok (.bipush 32, 2) := by decide +kernel
theorem d_MO_string_83 : decode b_MO_string 83 = .ok (.if_icmp .lt 19, 3) := by decide +kernel
theorem d_MO_string_86 : decode b_MO_string 86 = .ok (.iload_n 3, 1) := by decide +kernel
theorem d_MO_string_87 : decode b_MO_string 87 = .ok (.bipush 126, 2) := by decide +kernel
theorem d_MO_string_89 : decode b_MO_string 89 = .ok (.if_icmp .gt 13, 3) := by decide +kernel
theorem d_MO_string_92 : decode b_MO_string 92 = .ok (.iload_n 3, 1) := by decide +kernel
theorem d_MO_string_93 : decode b_MO_string 93 = .ok (.bipush 92, 2) := by decide +kernel
theorem d_MO_string_95 : decode b_MO_string 95 = .ok (.if_icmp .eq 7, 3) := by decide +kernel
theorem d_MO_string_98 : decode b_MO_string 98 = .ok (.iconst 1, 1) := by decide +kernel
theorem d_MO_string_99 : decode b_MO_string 99 = .ok (.goto 5, 3) := by decide +kernel
theorem d_MO_string_102 : decode b_MO_string 102 = .ok (.bipush 7, 2) := by decide +kernel
theorem d_MO_string_104 : decode b_MO_string 104 = .ok (.putfield 66, 3) := by decide +kernel
theorem d_MO_string_107 : decode b_MO_string 107 = .ok (.iload 5, 2) := by decide +kernel
theorem d_MO_string_109 : decode b_MO_string 109 = .ok (.ifCond .eq 9, 3) := by decide +kernel
theorem d_MO_string_112 : decode b_MO_string 112 = .ok (.iload_n 2, 1) := by decide +kernel
theorem d_MO_string_113 : decode b_MO_string 113 = .ok (.iconst 2, 1) := by decide +kernel
theorem d_MO_string_114 : decode b_MO_string 114 = .ok (.iadd, 1) := by decide +kernel
theorem d_MO_string_115 : decode b_MO_string 115 = .ok (.goto 6, 3) := by decide +kernel
theorem d_MO_string_118 : decode b_MO_string 118 = .ok (.iload_n 2, 1) := by decide +kernel
theorem d_MO_string_119 : decode b_MO_string 119 = .ok (.iconst 1, 1) := by decide +kernel
theorem d_MO_string_120 : decode b_MO_string 120 = .ok (.iadd, 1) := by decide +kernel
theorem d_MO_string_121 : decode b_MO_string 121 = .ok (.istore_n 2, 1) := by decide +kernel
theorem d_MO_string_122 : decode b_MO_string 122 = .ok (.goto (-115), 3) := by decide +kernel
theorem d_MO_string_125 : decode b_MO_string 125 = .ok (.aload_n 0, 1) := by decide +kernel
theorem d_MO_string_126 : decode b_MO_string 126 = .ok (.iload_n 2, 1) := by decide +kernel
theorem d_MO_string_127 : decode b_MO_string 127 = .ok (.iconst 1, 1) := by decide +kernel
theorem d_MO_string_128 : decode b_MO_string 128 = .ok (.iadd, 1) := by decide +kernel
theorem d_MO_string_129 : decode b_MO_string 129 = .ok (.putfield 56, 3) := by decide +kernel
theorem d_MO_string_132 : decode b_MO_string 132 = .ok (.return_, 1) := by decide +kernel
abbrev b_MO_isNumber : ByteArray := prog_12_method_16_code
abbrev y_MO_isNumber : MethodName := ⟨R_MO, "isNumber", "(II)Z"⟩
abbrev w_MO_isNumber : List Cond := (.code ⟨"TextTermsModel", "isNumber", "(II)Z"⟩ prog_12_method_16_code 7 (Option.some Jvm.ClassFile.FieldType.boolean)) :: tt_T
theorem hv_MO_isNumber : y_MO_isNumber.cls = R_MO ∧ y_MO_isNumber.cls ≠ "java/lang/invoke/MethodHandle" ∧ y_MO_isNumber.cls ≠ "java/lang/invoke/VarHandle" ∧ (parseMethodDescriptor y_MO_isNumber.desc).map (fun d => d.parameters.length) = some 2 := by decide +kernel
theorem d_MO_isNumber_0 : decode b_MO_isNumber 0 = .ok (.aload_n 0, 1) := by decide +kernel
theorem d_MO_isNumber_1 : decode b_MO_isNumber 1 = .ok (.iconst 0, 1) := by decide +kernel
theorem d_MO_isNumber_2 : decode b_MO_isNumber 2 = .ok (.putfield 88, 3) := by decide +kernel
theorem d_MO_isNumber_5 : decode b_MO_isNumber 5 = .ok (.aload_n 0, 1) := by decide +kernel
theorem d_MO_isNumber_6 : decode b_MO_isNumber 6 = .ok (.getfield 13, 3) := by decide +kernel
theorem d_MO_isNumber_9 : decode b_MO_isNumber 9 = .ok (.iload_n 1, 1) := by decide +kernel
theorem d_MO_isNumber_10 : decode b_MO_isNumber 10 = .ok (.baload, 1) := by decide +kernel
theorem d_MO_isNumber_11 : decode b_MO_isNumber 11 = .ok (.bipush 45, 2) := by decide +kernel
theorem d_MO_isNumber_13 : decode b_MO_isNumber 13 = .ok (.if_icmp .ne 9, 3) := by decide +kernel
theorem d_MO_isNumber_16 : decode b_MO_isNumber 16 = .ok (.iload_n 1, 1) := by decide +kernel
theorem d_MO_isNumber_17 : decode b_MO_isNumber 17 = .ok (.iconst 1, 1) := by decide +kernel
theorem d_MO_isNumber_18 : decode b_MO_isNumber 18 = .ok (.iadd, 1) := by decide +kernel
theorem d_MO_isNumber_19 : decode b_MO_isNumber 19 = .ok (.goto 4, 3) := by decide +kernel
theorem d_MO_isNumber_22 : decode b_MO_isNumber 22 = .ok (.iload_n 1, 1) := by decide +kernel
theorem d_MO_isNumber_23 : decode b_MO_isNumber 23 = .ok (.istore_n 3, 1) := by decide +kernel
theorem d_MO_isNumber_24 : decode b_MO_isNumber 24 = .ok (.iload_n 3, 1) := by decide +kernel
theorem d_MO_isNumber_25 : decode b_MO_isNumber 25 = .ok (.iload_n 2, 1) := by decide +kernel
theorem d_MO_isNumber_26 : decode b_MO_isNumber 26 = .ok (.if_icmp .ge 109, 3) := by decide +kernel
theorem d_MO_isNumber_29 : decode b_MO_isNumber 29 = .ok (.aload_n 0, 1) := by decide +kernel
theorem d_MO_isNumber_30 : decode b_MO_isNumber 30 = .ok (.getfield 13, 3) := by decide +kernel
theorem d_MO_isNumber_33 : decode b_MO_isNumber 33 = .ok (.iload_n 3, 1) := by decide +kernel
theorem d_MO_isNumber_34 : decode b_MO_isNumber 34 = .ok (.baload, 1) := by decide +kernel
theorem d_MO_isNumber_35 : decode b_MO_isNumber 35 = .ok (.bipush 48, 2) := by decide +kernel
theorem d_MO_isNumber_37 : decode b_MO_isNumber 37 = .ok (.isub, 1) := by decide +kernel
theorem d_MO_isNumber_38 : decode b_MO_isNumber 38 = .ok (.istore 4, 2) := by decide +kernel
theorem d_MO_isNumber_40 : decode b_MO_isNumber 40 = .ok (.iconst 0, 1) := by decide +kernel
theorem d_MO_isNumber_41 : decode b_MO_isNumber 41 = .ok (.istore 5, 2) := by decide +kernel
theorem d_MO_isNumber_43 : decode b_MO_isNumber 43 = .ok (.iload 5, 2) := by decide +kernel
theorem d_MO_isNumber_45 : decode b_MO_isNumber 45 = .ok (.aload_n 0, 1) := by decide +kernel
theorem d_MO_isNumber_46 : decode b_MO_isNumber 46 = .ok (.getfield 88, 3) := by decide +kernel
theorem d_MO_isNumber_49 : decode b_MO_isNumber 49 = .ok (.if_icmp .ge 43, 3) := by decide +kernel
theorem d_MO_isNumber_52 : decode b_MO_isNumber 52 = .ok (.bipush 10, 2) := by decide +kernel
theorem d_MO_isNumber_54 : decode b_MO_isNumber 54 = .ok (.aload_n 0, 1) := by decide +kernel
theorem d_MO_isNumber_55 : decode b_MO_isNumber 55 = .ok (.getfield 35, 3) := by decide +kernel
theorem d_MO_isNumber_58 : decode b_MO_isNumber 58 = .ok (.iload 5, 2) := by decide +kernel
theorem d_MO_isNumber_60 : decode b_MO_isNumber 60 = .ok (.iaload, 1) := by decide +kernel
theorem d_MO_isNumber_61 : decode b_MO_isNumber 61 = .ok (.imul, 1) := by decide +kernel
theorem d_MO_isNumber_62 : decode b_MO_isNumber 62 = .ok (.iload 4, 2) := by decide +kernel
theorem d_MO_isNumber_64 : decode b_MO_isNumber 64 = .ok (.iadd, 1) := by decide +kernel
theorem d_MO_isNumber_65 : decode b_MO_isNumber 65 = .ok (.istore 6, 2) := by decide +kernel
theorem d_MO_isNumber_67 : decode b_MO_isNumber 67 = .ok (.aload_n 0, 1) := by decide +kernel
theorem d_MO_isNumber_68 : decode b_MO_isNumber 68 = .ok (.getfield 35, 3) := by decide +kernel
theorem d_MO_isNumber_71 : decode b_MO_isNumber 71 = .ok (.iload 5, 2) := by decide +kernel
theorem d_MO_isNumber_73 : decode b_MO_isNumber 73 = .ok (.iload 6, 2) := by decide +kernel
theorem d_MO_isNumber_75 : decode b_MO_isNumber 75 = .ok (.ldc 91, 2) := by decide +kernel
theorem d_MO_isNumber_77 : decode b_MO_isNumber 77 = .ok (.irem, 1) := by decide +kernel
theorem d_MO_isNumber_78 : decode b_MO_isNumber 78 = .ok (.iastore, 1) := by decide +kernel
theorem d_MO_isNumber_79 : decode b_MO_isNumber 79 = .ok (.iload 6, 2) := by decide +kernel
theorem d_MO_isNumber_81 : decode b_MO_isNumber 81 = .ok (.ldc 91, 2) := by decide +kernel
theorem d_MO_isNumber_83 : decode b_MO_isNumber 83 = .ok (.idiv, 1) := by decide +kernel
theorem d_MO_isNumber_84 : decode b_MO_isNumber 84 = .ok (.istore 4, 2) := by decide +kernel
theorem d_MO_isNumber_86 : decode b_MO_isNumber 86 = .ok (.iinc 5 1, 3) := by decide +kernel
theorem d_MO_isNumber_89 : decode b_MO_isNumber 89 = .ok (.goto (-46), 3) := by decide +kernel
theorem d_MO_isNumber_92 : decode b_MO_isNumber 92 = .ok (.iload 4, 2) := by decide +kernel
theorem d_MO_isNumber_94 : decode b_MO_isNumber 94 = .ok (.ifCond .le 24, 3) := by decide +kernel
theorem d_MO_isNumber_97 : decode b_MO_isNumber 97 = .ok (.aload_n 0, 1) := by decide +kernel
theorem d_MO_isNumber_98 : decode b_MO_isNumber 98 = .ok (.getfield 35, 3) := by decide +kernel
theorem d_MO_isNumber_101 : decode b_MO_isNumber 101 = .ok (.aload_n 0, 1) := by decide +kernel
theorem d_MO_isNumber_102 : decode b_MO_isNumber 102 = .ok (.getfield 88, 3) := by decide +kernel
theorem d_MO_isNumber_105 : decode b_MO_isNumber 105 = .ok (.iload 4, 2) := by decide +kernel
theorem d_MO_isNumber_107 : decode b_MO_isNumber 107 = .ok (.iastore, 1) := by decide +kernel
theorem d_MO_isNumber_108 : decode b_MO_isNumber 108 = .ok (.aload_n 0, 1) := by decide +kernel
theorem d_MO_isNumber_109 : decode b_MO_isNumber 109 = .ok (.dup, 1) := by decide +kernel
theorem d_MO_isNumber_110 : decode b_MO_isNumber 110 = .ok (.getfield 88, 3) := by decide +kernel
theorem d_MO_isNumber_113 : decode b_MO_isNumber 113 = .ok (.iconst 1, 1) := by decide +kernel
theorem d_MO_isNumber_114 : decode b_MO_isNumber 114 = .ok (.iadd, 1) := by decide +kernel
theorem d_MO_isNumber_115 : decode b_MO_isNumber 115 = .ok (.putfield 88, 3) := by decide +kernel
theorem d_MO_isNumber_118 : decode b_MO_isNumber 118 = .ok (.aload_n 0, 1) := by decide +kernel
theorem d_MO_isNumber_119 : decode b_MO_isNumber 119 = .ok (.getfield 88, 3) := by decide +kernel
theorem d_MO_isNumber_122 : decode b_MO_isNumber 122 = .ok (.bipush 66, 2) := by decide +kernel
theorem d_MO_isNumber_124 : decode b_MO_isNumber 124 = .ok (.if_icmp .le 5, 3) := by decide +kernel
theorem d_MO_isNumber_127 : decode b_MO_isNumber 127 = .ok (.iconst 0, 1) := by decide +kernel
theorem d_MO_isNumber_128 : decode b_MO_isNumber 128 = .ok (.ireturn, 1) := by decide +kernel
theorem d_MO_isNumber_129 : decode b_MO_isNumber 129 = .ok (.iinc 3 1, 3) := by decide +kernel
theorem d_MO_isNumber_132 : decode b_MO_isNumber 132 = .ok (.goto (-108), 3) := by decide +kernel
theorem d_MO_isNumber_135 : decode b_MO_isNumber 135 = .ok (.aload_n 0, 1) := by decide +kernel
theorem d_MO_isNumber_136 : decode b_MO_isNumber 136 = .ok (.invokevirtual 92, 3) := by decide +kernel
theorem d_MO_isNumber_139 : decode b_MO_isNumber 139 = .ok (.sipush 1024, 3) := by decide +kernel
theorem d_MO_isNumber_142 : decode b_MO_isNumber 142 = .ok (.if_icmp .gt 7, 3) := by decide +kernel
theorem d_MO_isNumber_145 : decode b_MO_isNumber 145 = .ok (.iconst 1, 1) := by decide +kernel
theorem d_MO_isNumber_146 : decode b_MO_isNumber 146 = .ok (.goto 4, 3) := by decide +kernel
theorem d_MO_isNumber_149 : decode b_MO_isNumber 149 = .ok (.iconst 0, 1) := by decide +kernel
theorem d_MO_isNumber_150 : decode b_MO_isNumber 150 = .ok (.ireturn, 1) := by decide +kernel
abbrev b_MO_bits : ByteArray := prog_12_method_17_code
abbrev y_MO_bits : MethodName := ⟨R_MO, "bits", "()I"⟩
abbrev w_MO_bits : List Cond := (.code ⟨"TextTermsModel", "bits", "()I"⟩ prog_12_method_17_code 3 (Option.some Jvm.ClassFile.FieldType.int)) :: tt_T
theorem hv_MO_bits : y_MO_bits.cls = R_MO ∧ y_MO_bits.cls ≠ "java/lang/invoke/MethodHandle" ∧ y_MO_bits.cls ≠ "java/lang/invoke/VarHandle" ∧ (parseMethodDescriptor y_MO_bits.desc).map (fun d => d.parameters.length) = some 0 := by decide +kernel
theorem d_MO_bits_0 : decode b_MO_bits 0 = .ok (.aload_n 0, 1) := by decide +kernel
theorem d_MO_bits_1 : decode b_MO_bits 1 = .ok (.getfield 88, 3) := by decide +kernel
theorem d_MO_bits_4 : decode b_MO_bits 4 = .ok (.ifCond .ne 5, 3) := by decide +kernel
theorem d_MO_bits_7 : decode b_MO_bits 7 = .ok (.iconst 0, 1) := by decide +kernel
theorem d_MO_bits_8 : decode b_MO_bits 8 = .ok (.ireturn, 1) := by decide +kernel
theorem d_MO_bits_9 : decode b_MO_bits 9 = .ok (.bipush 16, 2) := by decide +kernel
theorem d_MO_bits_11 : decode b_MO_bits 11 = .ok (.aload_n 0, 1) := by decide +kernel
theorem d_MO_bits_12 : decode b_MO_bits 12 = .ok (.getfield 88, 3) := by decide +kernel
theorem d_MO_bits_15 : decode b_MO_bits 15 = .ok (.iconst 1, 1) := by decide +kernel
theorem d_MO_bits_16 : decode b_MO_bits 16 = .ok (.isub, 1) := by decide +kernel
theorem d_MO_bits_17 : decode b_MO_bits 17 = .ok (.imul, 1) := by decide +kernel
theorem d_MO_bits_18 : decode b_MO_bits 18 = .ok (.istore_n 1, 1) := by decide +kernel
theorem d_MO_bits_19 : decode b_MO_bits 19 = .ok (.aload_n 0, 1) := by decide +kernel
theorem d_MO_bits_20 : decode b_MO_bits 20 = .ok (.getfield 35, 3) := by decide +kernel
theorem d_MO_bits_23 : decode b_MO_bits 23 = .ok (.aload_n 0, 1) := by decide +kernel
theorem d_MO_bits_24 : decode b_MO_bits 24 = .ok (.getfield 88, 3) := by decide +kernel
theorem d_MO_bits_27 : decode b_MO_bits 27 = .ok (.iconst 1, 1) := by decide +kernel
theorem d_MO_bits_28 : decode b_MO_bits 28 = .ok (.isub, 1) := by decide +kernel
theorem d_MO_bits_29 : decode b_MO_bits 29 = .ok (.iaload, 1) := by decide +kernel
theorem d_MO_bits_30 : decode b_MO_bits 30 = .ok (.istore_n 2, 1) := by decide +kernel
theorem d_MO_bits_31 : decode b_MO_bits 31 = .ok (.iload_n 2, 1) := by decide +kernel
theorem d_MO_bits_32 : decode b_MO_bits 32 = .ok (.ifCond .le 13, 3) := by decide +kernel
theorem d_MO_bits_35 : decode b_MO_bits 35 = .ok (.iinc 1 1, 3) := by decide +kernel
theorem d_MO_bits_38 : decode b_MO_bits 38 = .ok (.iload_n 2, 1) := by decide +kernel
theorem d_MO_bits_39 : decode b_MO_bits 39 = .ok (.iconst 2, 1) := by decide +kernel
theorem d_MO_bits_40 : decode b_MO_bits 40 = .ok (.idiv, 1) := by decide +kernel
theorem d_MO_bits_41 : decode b_MO_bits 41 = .ok (.istore_n 2, 1) := by decide +kernel
theorem d_MO_bits_42 : decode b_MO_bits 42 = .ok (.goto (-11), 3) := by decide +kernel
theorem d_MO_bits_45 : decode b_MO_bits 45 = .ok (.iload_n 1, 1) := by decide +kernel
theorem d_MO_bits_46 : decode b_MO_bits 46 = .ok (.ireturn, 1) := by decide +kernel
abbrev b_MO_fail : ByteArray := prog_12_method_18_code
abbrev y_MO_fail : MethodName := ⟨R_MO, "fail", "()Z"⟩
abbrev w_MO_fail : List Cond := (.code ⟨"TextTermsModel", "fail", "()Z"⟩ prog_12_method_18_code 1 (Option.some Jvm.ClassFile.FieldType.boolean)) :: tt_T
theorem hv_MO_fail : y_MO_fail.cls = R_MO ∧ y_MO_fail.cls ≠ "java/lang/invoke/MethodHandle" ∧ y_MO_fail.cls ≠ "java/lang/invoke/VarHandle" ∧ (parseMethodDescriptor y_MO_fail.desc).map (fun d => d.parameters.length) = some 0 := by decide +kernel
theorem d_MO_fail_0 : decode b_MO_fail 0 = .ok (.aload_n 0, 1) := by decide +kernel
theorem d_MO_fail_1 : decode b_MO_fail 1 = .ok (.aload_n 0, 1) := by decide +kernel
theorem d_MO_fail_2 : decode b_MO_fail 2 = .ok (.getfield 63, 3) := by decide +kernel
theorem d_MO_fail_5 : decode b_MO_fail 5 = .ok (.putfield 96, 3) := by decide +kernel
theorem d_MO_fail_8 : decode b_MO_fail 8 = .ok (.iconst 0, 1) := by decide +kernel
theorem d_MO_fail_9 : decode b_MO_fail 9 = .ok (.ireturn, 1) := by decide +kernel
abbrev b_MO_term : ByteArray := prog_12_method_19_code
abbrev y_MO_term : MethodName := ⟨R_MO, "term", "(III)I"⟩
abbrev w_MO_term : List Cond := (.code ⟨"TextTermsModel", "term", "(III)I"⟩ prog_12_method_19_code 5 (Option.some Jvm.ClassFile.FieldType.int)) :: tt_T
theorem hv_MO_term : y_MO_term.cls = R_MO ∧ y_MO_term.cls ≠ "java/lang/invoke/MethodHandle" ∧ y_MO_term.cls ≠ "java/lang/invoke/VarHandle" ∧ (parseMethodDescriptor y_MO_term.desc).map (fun d => d.parameters.length) = some 3 := by decide +kernel
theorem d_MO_term_0 : decode b_MO_term 0 = .ok (.aload_n 0, 1) := by decide +kernel
theorem d_MO_term_1 : decode b_MO_term 1 = .ok (.getfield 99, 3) := by decide +kernel
theorem d_MO_term_4 : decode b_MO_term 4 = .ok (.sipush 4096, 3) := by decide +kernel
theorem d_MO_term_7 : decode b_MO_term 7 = .ok (.if_icmp .eq 28, 3) := by decide +kernel
theorem d_MO_term_10 : decode b_MO_term 10 = .ok (.iload_n 3, 1) := by decide +kernel
theorem d_MO_term_11 : decode b_MO_term 11 = .ok (.bipush 60, 2) := by decide +kernel
theorem d_MO_term_13 : decode b_MO_term 13 = .ok (.if_icmp .ge 22, 3) := by decide +kernel
theorem d_MO_term_16 : decode b_MO_term 16 = .ok (.iload_n 1, 1) := by decide +kernel
theorem d_MO_term_17 : decode b_MO_term 17 = .ok (.ifCond .ne 28, 3) := by decide +kernel
theorem d_MO_term_20 : decode b_MO_term 20 = .ok (.aload_n 0, 1) := by decide +kernel
theorem d_MO_term_21 : decode b_MO_term 21 = .ok (.aload_n 0, 1) := by decide +kernel
theorem d_MO_term_22 : decode b_MO_term 22 = .ok (.getfield 63, 3) := by decide +kernel
theorem d_MO_term_25 : decode b_MO_term 25 = .ok (.aload_n 0, 1) := by decide +kernel
theorem d_MO_term_26 : decode b_MO_term 26 = .ok (.getfield 56, 3) := by decide +kernel
theorem d_MO_term_29 : decode b_MO_term 29 = .ok (.invokevirtual 102, 3) := by decide +kernel
theorem d_MO_term_32 : decode b_MO_term 32 = .ok (.ifCond .ne 13, 3) := by decide +kernel
theorem d_MO_term_35 : decode b_MO_term 35 = .ok (.aload_n 0, 1) := by decide +kernel
theorem d_MO_term_36 : decode b_MO_term 36 = .ok (.aload_n 0, 1) := by decide +kernel
theorem d_MO_term_37 : decode b_MO_term 37 = .ok (.getfield 63, 3) := by decide +kernel
theorem d_MO_term_40 : decode b_MO_term 40 = .ok (.putfield 96, 3) := by decide +kernel
theorem d_MO_term_43 : decode b_MO_term 43 = .ok (.iconst (-1), 1) := by decide +kernel
theorem d_MO_term_44 : decode b_MO_term 44 = .ok (.ireturn, 1) := by decide +kernel
theorem d_MO_term_45 : decode b_MO_term 45 = .ok (.aload_n 0, 1) := by decide +kernel
theorem d_MO_term_46 : decode b_MO_term 46 = .ok (.getfield 99, 3) := by decide +kernel
theorem d_MO_term_49 : decode b_MO_term 49 = .ok (.istore 4, 2) := by decide +kernel
theorem d_MO_term_51 : decode b_MO_term 51 = .ok (.aload_n 0, 1) := by decide +kernel
theorem d_MO_term_52 : decode b_MO_term 52 = .ok (.dup, 1) := by decide +kernel
theorem d_MO_term_53 : decode b_MO_term 53 = .ok (.getfield 99, 3) := by decide +kernel
theorem d_MO_term_56 : decode b_MO_term 56 = .ok (.iconst 1, 1) := by decide +kernel
theorem d_MO_term_57 : decode b_MO_term 57 = .ok (.iadd, 1) := by decide +kernel
theorem d_MO_term_58 : decode b_MO_term 58 = .ok (.putfield 99, 3) := by decide +kernel
theorem d_MO_term_61 : decode b_MO_term 61 = .ok (.aload_n 0, 1) := by decide +kernel
theorem d_MO_term_62 : decode b_MO_term 62 = .ok (.getfield 16, 3) := by decide +kernel
theorem d_MO_term_65 : decode b_MO_term 65 = .ok (.iload 4, 2) := by decide +kernel
theorem d_MO_term_67 : decode b_MO_term 67 = .ok (.iload_n 1, 1) := by decide +kernel
theorem d_MO_term_68 : decode b_MO_term 68 = .ok (.i2b, 1) := by decide +kernel
theorem d_MO_term_69 : decode b_MO_term 69 = .ok (.bastore, 1) := by decide +kernel
theorem d_MO_term_70 : decode b_MO_term 70 = .ok (.aload_n 0, 1) := by decide +kernel
theorem d_MO_term_71 : decode b_MO_term 71 = .ok (.getfield 19, 3) := by decide +kernel
theorem d_MO_term_74 : decode b_MO_term 74 = .ok (.iload 4, 2) := by decide +kernel
theorem d_MO_term_76 : decode b_MO_term 76 = .ok (.iload_n 2, 1) := by decide +kernel
theorem d_MO_term_77 : decode b_MO_term 77 = .ok (.iastore, 1) := by decide +kernel
theorem d_MO_term_78 : decode b_MO_term 78 = .ok (.aload_n 0, 1) := by decide +kernel
theorem d_MO_term_79 : decode b_MO_term 79 = .ok (.getfield 23, 3) := by decide +kernel
theorem d_MO_term_82 : decode b_MO_term 82 = .ok (.iload 4, 2) := by decide +kernel
theorem d_MO_term_84 : decode b_MO_term 84 = .ok (.aload_n 0, 1) := by decide +kernel
theorem d_MO_term_85 : decode b_MO_term 85 = .ok (.getfield 63, 3) := by decide +kernel
theorem d_MO_term_88 : decode b_MO_term 88 = .ok (.iastore, 1) := by decide +kernel
theorem d_MO_term_89 : decode b_MO_term 89 = .ok (.aload_n 0, 1) := by decide +kernel
theorem d_MO_term_90 : decode b_MO_term 90 = .ok (.getfield 26, 3) := by decide +kernel
theorem d_MO_term_93 : decode b_MO_term 93 = .ok (.iload 4, 2) := by decide +kernel
theorem d_MO_term_95 : decode b_MO_term 95 = .ok (.aload_n 0, 1) := by decide +kernel
theorem d_MO_term_96 : decode b_MO_term 96 = .ok (.getfield 56, 3) := by decide +kernel
theorem d_MO_term_99 : decode b_MO_term 99 = .ok (.iastore, 1) := by decide +kernel
theorem d_MO_term_100 : decode b_MO_term 100 = .ok (.aload_n 0, 1) := by decide +kernel
theorem d_MO_term_101 : decode b_MO_term 101 = .ok (.getfield 29, 3) := by decide +kernel
theorem d_MO_term_104 : decode b_MO_term 104 = .ok (.iload 4, 2) := by decide +kernel
theorem d_MO_term_106 : decode b_MO_term 106 = .ok (.iconst (-1), 1) := by decide +kernel
theorem d_MO_term_107 : decode b_MO_term 107 = .ok (.iastore, 1) := by decide +kernel
theorem d_MO_term_108 : decode b_MO_term 108 = .ok (.aload_n 0, 1) := by decide +kernel
theorem d_MO_term_109 : decode b_MO_term 109 = .ok (.getfield 32, 3) := by decide +kernel
theorem d_MO_term_112 : decode b_MO_term 112 = .ok (.iload 4, 2) := by decide +kernel
theorem d_MO_term_114 : decode b_MO_term 114 = .ok (.iconst (-1), 1) := by decide +kernel
theorem d_MO_term_115 : decode b_MO_term 115 = .ok (.iastore, 1) := by decide +kernel
theorem d_MO_term_116 : decode b_MO_term 116 = .ok (.iload 4, 2) := by decide +kernel
theorem d_MO_term_118 : decode b_MO_term 118 = .ok (.ireturn, 1) := by decide +kernel
abbrev b_MO_isLeaf : ByteArray := prog_12_method_20_code
abbrev y_MO_isLeaf : MethodName := ⟨R_MO, "isLeaf", "()Z"⟩
abbrev w_MO_isLeaf : List Cond := (.code ⟨"TextTermsModel", "isLeaf", "()Z"⟩ prog_12_method_20_code 1 (Option.some Jvm.ClassFile.FieldType.boolean)) :: tt_T
theorem hv_MO_isLeaf : y_MO_isLeaf.cls = R_MO ∧ y_MO_isLeaf.cls ≠ "java/lang/invoke/MethodHandle" ∧ y_MO_isLeaf.cls ≠ "java/lang/invoke/VarHandle" ∧ (parseMethodDescriptor y_MO_isLeaf.desc).map (fun d => d.parameters.length) = some 0 := by decide +kernel
theorem d_MO_isLeaf_0 : decode b_MO_isLeaf 0 = .ok (.aload_n 0, 1) := by decide +kernel
theorem d_MO_isLeaf_1 : decode b_MO_isLeaf 1 = .ok (.getfield 66, 3) := by decide +kernel
theorem d_MO_isLeaf_4 : decode b_MO_isLeaf 4 = .ok (.ifCond .eq 19, 3) := by decide +kernel
theorem d_MO_isLeaf_7 : decode b_MO_isLeaf 7 = .ok (.aload_n 0, 1) := by decide +kernel
theorem d_MO_isLeaf_8 : decode b_MO_isLeaf 8 = .ok (.getfield 66, 3) := by decide +kernel
theorem d_MO_isLeaf_11 : decode b_MO_isLeaf 11 = .ok (.iconst 1, 1) := by decide +kernel
theorem d_MO_isLeaf_12 : decode b_MO_isLeaf 12 = .ok (.if_icmp .eq 11, 3) := by decide +kernel
theorem d_MO_isLeaf_15 : decode b_MO_isLeaf 15 = .ok (.aload_n 0, 1) := by decide +kernel
theorem d_MO_isLeaf_16 : decode b_MO_isLeaf 16 = .ok (.getfield 66, 3) := by decide +kernel
theorem d_MO_isLeaf_19 : decode b_MO_isLeaf 19 = .ok (.iconst 2, 1) := by decide +kernel
theorem d_MO_isLeaf_20 : decode b_MO_isLeaf 20 = .ok (.if_icmp .ne 7, 3) := by decide +kernel
theorem d_MO_isLeaf_23 : decode b_MO_isLeaf 23 = .ok (.iconst 1, 1) := by decide +kernel
theorem d_MO_isLeaf_24 : decode b_MO_isLeaf 24 = .ok (.goto 4, 3) := by decide +kernel
theorem d_MO_isLeaf_27 : decode b_MO_isLeaf 27 = .ok (.iconst 0, 1) := by decide +kernel
theorem d_MO_isLeaf_28 : decode b_MO_isLeaf 28 = .ok (.ireturn, 1) := by decide +kernel
abbrev b_MO_leaf : ByteArray := prog_12_method_21_code
abbrev y_MO_leaf : MethodName := ⟨R_MO, "leaf", "(II)Z"⟩
abbrev w_MO_leaf : List Cond := (.code ⟨"TextTermsModel", "leaf", "(II)Z"⟩ prog_12_method_21_code 4 (Option.some Jvm.ClassFile.FieldType.boolean)) :: tt_T
theorem hv_MO_leaf : y_MO_leaf.cls = R_MO ∧ y_MO_leaf.cls ≠ "java/lang/invoke/MethodHandle" ∧ y_MO_leaf.cls ≠ "java/lang/invoke/VarHandle" ∧ (parseMethodDescriptor y_MO_leaf.desc).map (fun d => d.parameters.length) = some 2 := by decide +kernel
theorem d_MO_leaf_0 : decode b_MO_leaf 0 = .ok (.aload_n 0, 1) := by decide +kernel
theorem d_MO_leaf_1 : decode b_MO_leaf 1 = .ok (.aload_n 0, 1) := by decide +kernel
theorem d_MO_leaf_2 : decode b_MO_leaf 2 = .ok (.getfield 66, 3) := by decide +kernel
theorem d_MO_leaf_5 : decode b_MO_leaf 5 = .ok (.iload_n 1, 1) := by decide +kernel
theorem d_MO_leaf_6 : decode b_MO_leaf 6 = .ok (.iload_n 2, 1) := by decide +kernel
theorem d_MO_leaf_7 : decode b_MO_leaf 7 = .ok (.invokevirtual 106, 3) := by decide +kernel
theorem d_MO_leaf_10 : decode b_MO_leaf 10 = .ok (.istore_n 3, 1) := by decide +kernel
theorem d_MO_leaf_11 : decode b_MO_leaf 11 = .ok (.aload_n 0, 1) := by decide +kernel
theorem d_MO_leaf_12 : decode b_MO_leaf 12 = .ok (.invokevirtual 110, 3) := by decide +kernel
theorem d_MO_leaf_15 : decode b_MO_leaf 15 = .ok (.iload_n 3, 1) := by decide +kernel
theorem d_MO_leaf_16 : decode b_MO_leaf 16 = .ok (.ifCond .lt 7, 3) := by decide +kernel
theorem d_MO_leaf_19 : decode b_MO_leaf 19 = .ok (.iconst 1, 1) := by decide +kernel
theorem d_MO_leaf_20 : decode b_MO_leaf 20 = .ok (.goto 4, 3) := by decide +kernel
theorem d_MO_leaf_23 : decode b_MO_leaf 23 = .ok (.iconst 0, 1) := by decide +kernel
theorem d_MO_leaf_24 : decode b_MO_leaf 24 = .ok (.ireturn, 1) := by decide +kernel
abbrev b_MO_item : ByteArray := prog_12_method_22_code
abbrev y_MO_item : MethodName := ⟨R_MO, "item", "(II)Z"⟩
abbrev w_MO_item : List Cond := (.code ⟨"TextTermsModel", "item", "(II)Z"⟩ prog_12_method_22_code 3 (Option.some Jvm.ClassFile.FieldType.boolean)) :: tt_T
theorem hv_MO_item : y_MO_item.cls = R_MO ∧ y_MO_item.cls ≠ "java/lang/invoke/MethodHandle" ∧ y_MO_item.cls ≠ "java/lang/invoke/VarHandle" ∧ (parseMethodDescriptor y_MO_item.desc).map (fun d => d.parameters.length) = some 2 := by decide +kernel
theorem d_MO_item_0 : decode b_MO_item 0 = .ok (.aload_n 0, 1) := by decide +kernel
theorem d_MO_item_1 : decode b_MO_item 1 = .ok (.invokevirtual 113, 3) := by decide +kernel
theorem d_MO_item_4 : decode b_MO_item 4 = .ok (.ifCond .eq 10, 3) := by decide +kernel
theorem d_MO_item_7 : decode b_MO_item 7 = .ok (.aload_n 0, 1) := by decide +kernel
theorem d_MO_item_8 : decode b_MO_item 8 = .ok (.iload_n 1, 1) := by decide +kernel
theorem d_MO_item_9 : decode b_MO_item 9 = .ok (.iload_n 2, 1) := by decide +kernel
theorem d_MO_item_10 : decode b_MO_item 10 = .ok (.invokevirtual 117, 3) := by decide +kernel
theorem d_MO_item_13 : decode b_MO_item 13 = .ok (.ireturn, 1) := by decide +kernel
theorem d_MO_item_14 : decode b_MO_item 14 = .ok (.aload_n 0, 1) := by decide +kernel
theorem d_MO_item_15 : decode b_MO_item 15 = .ok (.getfield 66, 3) := by decide +kernel
theorem d_MO_item_18 : decode b_MO_item 18 = .ok (.bipush 123, 2) := by decide +kernel
theorem d_MO_item_20 : decode b_MO_item 20 = .ok (.if_icmp .ne 12, 3) := by decide +kernel
theorem d_MO_item_23 : decode b_MO_item 23 = .ok (.aload_n 0, 1) := by decide +kernel
theorem d_MO_item_24 : decode b_MO_item 24 = .ok (.iload_n 1, 1) := by decide +kernel
theorem d_MO_item_25 : decode b_MO_item 25 = .ok (.iload_n 2, 1) := by decide +kernel
theorem d_MO_item_26 : decode b_MO_item 26 = .ok (.invokevirtual 120, 3) := by decide +kernel
theorem d_MO_item_29 : decode b_MO_item 29 = .ok (.goto 24, 3) := by decide +kernel
theorem d_MO_item_32 : decode b_MO_item 32 = .ok (.aload_n 0, 1) := by decide +kernel
theorem d_MO_item_33 : decode b_MO_item 33 = .ok (.getfield 66, 3) := by decide +kernel
theorem d_MO_item_36 : decode b_MO_item 36 = .ok (.iconst 4, 1) := by decide +kernel
theorem d_MO_item_37 : decode b_MO_item 37 = .ok (.if_icmp .ne 12, 3) := by decide +kernel
theorem d_MO_item_40 : decode b_MO_item 40 = .ok (.aload_n 0, 1) := by decide +kernel
theorem d_MO_item_41 : decode b_MO_item 41 = .ok (.iload_n 1, 1) := by decide +kernel
theorem d_MO_item_42 : decode b_MO_item 42 = .ok (.iload_n 2, 1) := by decide +kernel
theorem d_MO_item_43 : decode b_MO_item 43 = .ok (.invokevirtual 123, 3) := by decide +kernel
theorem d_MO_item_46 : decode b_MO_item 46 = .ok (.goto 7, 3) := by decide +kernel
theorem d_MO_item_49 : decode b_MO_item 49 = .ok (.aload_n 0, 1) := by decide +kernel
theorem d_MO_item_50 : decode b_MO_item 50 = .ok (.invokevirtual 126, 3) := by decide +kernel
theorem d_MO_item_53 : decode b_MO_item 53 = .ok (.ireturn, 1) := by decide +kernel
abbrev b_MO_sequence : ByteArray := prog_12_method_23_code
abbrev y_MO_sequence : MethodName := ⟨R_MO, "sequence", "(II)Z"⟩
abbrev w_MO_sequence : List Cond := (.code ⟨"TextTermsModel", "sequence", "(II)Z"⟩ prog_12_method_23_code 4 (Option.some Jvm.ClassFile.FieldType.boolean)) :: tt_T
theorem hv_MO_sequence : y_MO_sequence.cls = R_MO ∧ y_MO_sequence.cls ≠ "java/lang/invoke/MethodHandle" ∧ y_MO_sequence.cls ≠ "java/lang/invoke/VarHandle" ∧ (parseMethodDescriptor y_MO_sequence.desc).map (fun d => d.parameters.length) = some 2 := by decide +kernel
theorem d_MO_sequence_0 : decode b_MO_sequence 0 = .ok (.aload_n 0, 1) := by decide +kernel
theorem d_MO_sequence_1 : decode b_MO_sequence 1 = .ok (.iconst 3, 1) := by decide +kernel
theorem d_MO_sequence_2 : decode b_MO_sequence 2 = .ok (.iload_n 1, 1) := by decide +kernel
theorem d_MO_sequence_3 : decode b_MO_sequence 3 = .ok (.iload_n 2, 1) := by decide +kernel
theorem d_MO_sequence_4 : decode b_MO_sequence 4 = .ok (.invokevirtual 106, 3) := by decide +kernel
theorem d_MO_sequence_7 : decode b_MO_sequence 7 = .ok (.istore_n 3, 1) := by decide +kernel
theorem d_MO_sequence_8 : decode b_MO_sequence 8 = .ok (.iload_n 3, 1) := by decide +kernel
theorem d_MO_sequence_9 : decode b_MO_sequence 9 = .ok (.ifCond .ge 5, 3) := by decide +kernel
theorem d_MO_sequence_12 : decode b_MO_sequence 12 = .ok (.iconst 0, 1) := by decide +kernel
theorem d_MO_sequence_13 : decode b_MO_sequence 13 = .ok (.ireturn, 1) := by decide +kernel
theorem d_MO_sequence_14 : decode b_MO_sequence 14 = .ok (.aload_n 0, 1) := by decide +kernel
theorem d_MO_sequence_15 : decode b_MO_sequence 15 = .ok (.invokevirtual 110, 3) := by decide +kernel
theorem d_MO_sequence_18 : decode b_MO_sequence 18 = .ok (.aload_n 0, 1) := by decide +kernel
theorem d_MO_sequence_19 : decode b_MO_sequence 19 = .ok (.getfield 66, 3) := by decide +kernel
theorem d_MO_sequence_22 : decode b_MO_sequence 22 = .ok (.bipush 125, 2) := by decide +kernel
theorem d_MO_sequence_24 : decode b_MO_sequence 24 = .ok (.if_icmp .eq 46, 3) := by decide +kernel
theorem d_MO_sequence_27 : decode b_MO_sequence 27 = .ok (.aload_n 0, 1) := by decide +kernel
theorem d_MO_sequence_28 : decode b_MO_sequence 28 = .ok (.iload_n 3, 1) := by decide +kernel
theorem d_MO_sequence_29 : decode b_MO_sequence 29 = .ok (.iload_n 2, 1) := by decide +kernel
theorem d_MO_sequence_30 : decode b_MO_sequence 30 = .ok (.iconst 1, 1) := by decide +kernel
theorem d_MO_sequence_31 : decode b_MO_sequence 31 = .ok (.iadd, 1) := by decide +kernel
theorem d_MO_sequence_32 : decode b_MO_sequence 32 = .ok (.invokevirtual 129, 3) := by decide +kernel
theorem d_MO_sequence_35 : decode b_MO_sequence 35 = .ok (.ifCond .ne 5, 3) := by decide +kernel
theorem d_MO_sequence_38 : decode b_MO_sequence 38 = .ok (.iconst 0, 1) := by decide +kernel
theorem d_MO_sequence_39 : decode b_MO_sequence 39 = .ok (.ireturn, 1) := by decide +kernel
theorem d_MO_sequence_40 : decode b_MO_sequence 40 = .ok (.aload_n 0, 1) := by decide +kernel
theorem d_MO_sequence_41 : decode b_MO_sequence 41 = .ok (.getfield 66, 3) := by decide +kernel
theorem d_MO_sequence_44 : decode b_MO_sequence 44 = .ok (.bipush 59, 2) := by decide +kernel
theorem d_MO_sequence_46 : decode b_MO_sequence 46 = .ok (.if_icmp .ne 10, 3) := by decide +kernel
theorem d_MO_sequence_49 : decode b_MO_sequence 49 = .ok (.aload_n 0, 1) := by decide +kernel
theorem d_MO_sequence_50 : decode b_MO_sequence 50 = .ok (.invokevirtual 110, 3) := by decide +kernel
theorem d_MO_sequence_53 : decode b_MO_sequence 53 = .ok (.goto (-35), 3) := by decide +kernel
theorem d_MO_sequence_56 : decode b_MO_sequence 56 = .ok (.aload_n 0, 1) := by decide +kernel
theorem d_MO_sequence_57 : decode b_MO_sequence 57 = .ok (.getfield 66, 3) := by decide +kernel
theorem d_MO_sequence_60 : decode b_MO_sequence 60 = .ok (.bipush 125, 2) := by decide +kernel
theorem d_MO_sequence_62 : decode b_MO_sequence 62 = .ok (.if_icmp .eq (-44), 3) := by decide +kernel
theorem d_MO_sequence_65 : decode b_MO_sequence 65 = .ok (.aload_n 0, 1) := by decide +kernel
theorem d_MO_sequence_66 : decode b_MO_sequence 66 = .ok (.invokevirtual 126, 3) := by decide +kernel
theorem d_MO_sequence_69 : decode b_MO_sequence 69 = .ok (.ireturn, 1) := by decide +kernel
theorem d_MO_sequence_70 : decode b_MO_sequence 70 = .ok (.aload_n 0, 1) := by decide +kernel
theorem d_MO_sequence_71 : decode b_MO_sequence 71 = .ok (.getfield 26, 3) := by decide +kernel
theorem d_MO_sequence_74 : decode b_MO_sequence 74 = .ok (.iload_n 3, 1) := by decide +kernel
theorem d_MO_sequence_75 : decode b_MO_sequence 75 = .ok (.aload_n 0, 1) := by decide +kernel
theorem d_MO_sequence_76 : decode b_MO_sequence 76 = .ok (.getfield 56, 3) := by decide +kernel
theorem d_MO_sequence_79 : decode b_MO_sequence 79 = .ok (.iastore, 1) := by decide +kernel
theorem d_MO_sequence_80 : decode b_MO_sequence 80 = .ok (.aload_n 0, 1) := by decide +kernel
theorem d_MO_sequence_81 : decode b_MO_sequence 81 = .ok (.invokevirtual 110, 3) := by decide +kernel
theorem d_MO_sequence_84 : decode b_MO_sequence 84 = .ok (.iconst 1, 1) := by decide +kernel
theorem d_MO_sequence_85 : decode b_MO_sequence 85 = .ok (.ireturn, 1) := by decide +kernel
abbrev b_MO_application : ByteArray := prog_12_method_24_code
abbrev y_MO_application : MethodName := ⟨R_MO, "application", "(II)Z"⟩
abbrev w_MO_application : List Cond := (.code ⟨"TextTermsModel", "application", "(II)Z"⟩ prog_12_method_24_code 6 (Option.some Jvm.ClassFile.FieldType.boolean)) :: tt_T
theorem hv_MO_application : y_MO_application.cls = R_MO ∧ y_MO_application.cls ≠ "java/lang/invoke/MethodHandle" ∧ y_MO_application.cls ≠ "java/lang/invoke/VarHandle" ∧ (parseMethodDescriptor y_MO_application.desc).map (fun d => d.parameters.length) = some 2 := by decide +kernel
theorem d_MO_application_0 : decode b_MO_application 0 = .ok (.aload_n 0, 1) := by decide +kernel
theorem d_MO_application_1 : decode b_MO_application 1 = .ok (.iconst 4, 1) := by decide +kernel
theorem d_MO_application_2 : decode b_MO_application 2 = .ok (.iload_n 1, 1) := by decide +kernel
theorem d_MO_application_3 : decode b_MO_application 3 = .ok (.iload_n 2, 1) := by decide +kernel
theorem d_MO_application_4 : decode b_MO_application 4 = .ok (.invokevirtual 106, 3) := by decide +kernel
theorem d_MO_application_7 : decode b_MO_application 7 = .ok (.istore_n 3, 1) := by decide +kernel
theorem d_MO_application_8 : decode b_MO_application 8 = .ok (.iload_n 3, 1) := by decide +kernel
theorem d_MO_application_9 : decode b_MO_application 9 = .ok (.ifCond .ge 5, 3) := by decide +kernel
theorem d_MO_application_12 : decode b_MO_application 12 = .ok (.iconst 0, 1) := by decide +kernel
theorem d_MO_application_13 : decode b_MO_application 13 = .ok (.ireturn, 1) := by decide +kernel
theorem d_MO_application_14 : decode b_MO_application 14 = .ok (.aload_n 0, 1) := by decide +kernel
theorem d_MO_application_15 : decode b_MO_application 15 = .ok (.invokevirtual 110, 3) := by decide +kernel
theorem d_MO_application_18 : decode b_MO_application 18 = .ok (.aload_n 0, 1) := by decide +kernel
theorem d_MO_application_19 : decode b_MO_application 19 = .ok (.getfield 66, 3) := by decide +kernel
theorem d_MO_application_22 : decode b_MO_application 22 = .ok (.bipush 6, 2) := by decide +kernel
theorem d_MO_application_24 : decode b_MO_application 24 = .ok (.if_icmp .ne 29, 3) := by decide +kernel
theorem d_MO_application_27 : decode b_MO_application 27 = .ok (.aload_n 0, 1) := by decide +kernel
theorem d_MO_application_28 : decode b_MO_application 28 = .ok (.getfield 29, 3) := by decide +kernel
theorem d_MO_application_31 : decode b_MO_application 31 = .ok (.iload_n 3, 1) := by decide +kernel
theorem d_MO_application_32 : decode b_MO_application 32 = .ok (.aload_n 0, 1) := by decide +kernel
theorem d_MO_application_33 : decode b_MO_application 33 = .ok (.getfield 63, 3) := by decide +kernel
theorem d_MO_application_36 : decode b_MO_application 36 = .ok (.iconst 1, 1) := by decide +kernel
theorem d_MO_application_37 : decode b_MO_application 37 = .ok (.iadd, 1) := by decide +kernel
theorem d_MO_application_38 : decode b_MO_application 38 = .ok (.iastore, 1) := by decide +kernel
theorem d_MO_application_39 : decode b_MO_application 39 = .ok (.aload_n 0, 1) := by decide +kernel
theorem d_MO_application_40 : decode b_MO_application 40 = .ok (.getfield 32, 3) := by decide +kernel
theorem d_MO_application_43 : decode b_MO_application 43 = .ok (.iload_n 3, 1) := by decide +kernel
theorem d_MO_application_44 : decode b_MO_application 44 = .ok (.aload_n 0, 1) := by decide +kernel
theorem d_MO_application_45 : decode b_MO_application 45 = .ok (.getfield 56, 3) := by decide +kernel
theorem d_MO_application_48 : decode b_MO_application 48 = .ok (.iastore, 1) := by decide +kernel
theorem d_MO_application_49 : decode b_MO_application 49 = .ok (.aload_n 0, 1) := by decide +kernel
theorem d_MO_application_50 : decode b_MO_application 50 = .ok (.invokevirtual 110, 3) := by decide +kernel
theorem d_MO_application_53 : decode b_MO_application 53 = .ok (.iconst 1, 1) := by decide +kernel
theorem d_MO_application_54 : decode b_MO_application 54 = .ok (.istore 4, 2) := by decide +kernel
theorem d_MO_application_56 : decode b_MO_application 56 = .ok (.iconst 1, 1) := by decide +kernel
theorem d_MO_application_57 : decode b_MO_application 57 = .ok (.istore 5, 2) := by decide +kernel
theorem d_MO_application_59 : decode b_MO_application 59 = .ok (.iload 4, 2) := by decide +kernel
theorem d_MO_application_61 : decode b_MO_application 61 = .ok (.ifCond .eq 137, 3) := by decide +kernel
theorem d_MO_application_64 : decode b_MO_application 64 = .ok (.iload 5, 2) := by decide +kernel
theorem d_MO_application_66 : decode b_MO_application 66 = .ok (.ifCond .eq 132, 3) := by decide +kernel
theorem d_MO_application_69 : decode b_MO_application 69 = .ok (.aload_n 0, 1) := by decide +kernel
theorem d_MO_application_70 : decode b_MO_application 70 = .ok (.invokevirtual 113, 3) := by decide +kernel
theorem d_MO_application_73 : decode b_MO_application 73 = .ok (.ifCond .ne 11, 3) := by decide +kernel
theorem d_MO_application_76 : decode b_MO_application 76 = .ok (.aload_n 0, 1) := by decide +kernel
theorem d_MO_application_77 : decode b_MO_application 77 = .ok (.getfield 66, 3) := by decide +kernel
theorem d_MO_application_80 : decode b_MO_application 80 = .ok (.iconst 4, 1) := by decide +kernel
theorem d_MO_application_81 : decode b_MO_application 81 = .ok (.if_icmp .ne 16, 3) := by decide +kernel
theorem d_MO_application_84 : decode b_MO_application 84 = .ok (.aload_n 0, 1) := by decide +kernel
theorem d_MO_application_85 : decode b_MO_application 85 = .ok (.iload_n 3, 1) := by decide +kernel
theorem d_MO_application_86 : decode b_MO_application 86 = .ok (.iload_n 2, 1) := by decide +kernel
theorem d_MO_application_87 : decode b_MO_application 87 = .ok (.iconst 1, 1) := by decide +kernel
theorem d_MO_application_88 : decode b_MO_application 88 = .ok (.iadd, 1) := by decide +kernel
theorem d_MO_application_89 : decode b_MO_application 89 = .ok (.invokevirtual 117, 3) := by decide +kernel
theorem d_MO_application_92 : decode b_MO_application 92 = .ok (.istore 4, 2) := by decide +kernel
theorem d_MO_application_94 : decode b_MO_application 94 = .ok (.goto (-35), 3) := by decide +kernel
theorem d_MO_application_97 : decode b_MO_application 97 = .ok (.aload_n 0, 1) := by decide +kernel
theorem d_MO_application_98 : decode b_MO_application 98 = .ok (.getfield 66, 3) := by decide +kernel
theorem d_MO_application_101 : decode b_MO_application 101 = .ok (.bipush 123, 2) := by decide +kernel
theorem d_MO_application_103 : decode b_MO_application 103 = .ok (.if_icmp .ne 16, 3) := by decide +kernel
theorem d_MO_application_106 : decode b_MO_application 106 = .ok (.aload_n 0, 1) := by decide +kernel
theorem d_MO_application_107 : decode b_MO_application 107 = .ok (.iload_n 3, 1) := by decide +kernel
theorem d_MO_application_108 : decode b_MO_application 108 = .ok (.iload_n 2, 1) := by decide +kernel
theorem d_MO_application_109 : decode b_MO_application 109 = .ok (.iconst 1, 1) := by decide +kernel
theorem d_MO_application_110 : decode b_MO_application 110 = .ok (.iadd, 1) := by decide +kernel
theorem d_MO_application_111 : decode b_MO_application 111 = .ok (.invokevirtual 120, 3) := by decide +kernel
theorem d_MO_application_114 : decode b_MO_application 114 = .ok (.istore 4, 2) := by decide +kernel
theorem d_MO_application_116 : decode b_MO_application 116 = .ok (.goto (-57), 3) := by decide +kernel
theorem d_MO_application_119 : decode b_MO_application 119 = .ok (.aload_n 0, 1) := by decide +kernel
theorem d_MO_application_120 : decode b_MO_application 120 = .ok (.getfield 66, 3) := by decide +kernel
theorem d_MO_application_123 : decode b_MO_application 123 = .ok (.bipush 40, 2) := by decide +kernel
theorem d_MO_application_125 : decode b_MO_application 125 = .ok (.if_icmp .ne 67, 3) := by decide +kernel
theorem d_MO_application_128 : decode b_MO_application 128 = .ok (.aload_n 0, 1) := by decide +kernel
theorem d_MO_application_129 : decode b_MO_application 129 = .ok (.invokevirtual 110, 3) := by decide +kernel
theorem d_MO_application_132 : decode b_MO_application 132 = .ok (.aload_n 0, 1) := by decide +kernel
theorem d_MO_application_133 : decode b_MO_application 133 = .ok (.getfield 66, 3) := by decide +kernel
theorem d_MO_application_136 : decode b_MO_application 136 = .ok (.iconst 4, 1) := by decide +kernel
theorem d_MO_application_137 : decode b_MO_application 137 = .ok (.if_icmp .ne 14, 3) := by decide +kernel
theorem d_MO_application_140 : decode b_MO_application 140 = .ok (.aload_n 0, 1) := by decide +kernel
theorem d_MO_application_141 : decode b_MO_application 141 = .ok (.iload_n 3, 1) := by decide +kernel
theorem d_MO_application_142 : decode b_MO_application 142 = .ok (.iload_n 2, 1) := by decide +kernel
theorem d_MO_application_143 : decode b_MO_application 143 = .ok (.iconst 1, 1) := by decide +kernel
theorem d_MO_application_144 : decode b_MO_application 144 = .ok (.iadd, 1) := by decide +kernel
theorem d_MO_application_145 : decode b_MO_application 145 = .ok (.invokevirtual 123, 3) := by decide +kernel
theorem d_MO_application_148 : decode b_MO_application 148 = .ok (.goto 7, 3) := by decide +kernel
theorem d_MO_application_151 : decode b_MO_application 151 = .ok (.aload_n 0, 1) := by decide +kernel
theorem d_MO_application_152 : decode b_MO_application 152 = .ok (.invokevirtual 126, 3) := by decide +kernel
theorem d_MO_application_155 : decode b_MO_application 155 = .ok (.istore 4, 2) := by decide +kernel
theorem d_MO_application_157 : decode b_MO_application 157 = .ok (.iload 4, 2) := by decide +kernel
theorem d_MO_application_159 : decode b_MO_application 159 = .ok (.ifCond .eq 21, 3) := by decide +kernel
theorem d_MO_application_162 : decode b_MO_application 162 = .ok (.aload_n 0, 1) := by decide +kernel
theorem d_MO_application_163 : decode b_MO_application 163 = .ok (.getfield 66, 3) := by decide +kernel
theorem d_MO_application_166 : decode b_MO_application 166 = .ok (.bipush 41, 2) := by decide +kernel
theorem d_MO_application_168 : decode b_MO_application 168 = .ok (.if_icmp .eq 12, 3) := by decide +kernel
theorem d_MO_application_171 : decode b_MO_application 171 = .ok (.aload_n 0, 1) := by decide +kernel
theorem d_MO_application_172 : decode b_MO_application 172 = .ok (.invokevirtual 126, 3) := by decide +kernel
theorem d_MO_application_175 : decode b_MO_application 175 = .ok (.istore 4, 2) := by decide +kernel
theorem d_MO_application_177 : decode b_MO_application 177 = .ok (.goto (-118), 3) := by decide +kernel
theorem d_MO_application_180 : decode b_MO_application 180 = .ok (.iload 4, 2) := by decide +kernel
theorem d_MO_application_182 : decode b_MO_application 182 = .ok (.ifCond .eq (-123), 3) := by decide +kernel
theorem d_MO_application_185 : decode b_MO_application 185 = .ok (.aload_n 0, 1) := by decide +kernel
theorem d_MO_application_186 : decode b_MO_application 186 = .ok (.invokevirtual 110, 3) := by decide +kernel
theorem d_MO_application_189 : decode b_MO_application 189 = .ok (.goto (-130), 3) := by decide +kernel
theorem d_MO_application_192 : decode b_MO_application 192 = .ok (.iconst 0, 1) := by decide +kernel
theorem d_MO_application_193 : decode b_MO_application 193 = .ok (.istore 5, 2) := by decide +kernel
theorem d_MO_application_195 : decode b_MO_application 195 = .ok (.goto (-136), 3) := by decide +kernel
theorem d_MO_application_198 : decode b_MO_application 198 = .ok (.iload 4, 2) := by decide +kernel
theorem d_MO_application_200 : decode b_MO_application 200 = .ok (.ireturn, 1) := by decide +kernel
abbrev b_MO_read : ByteArray := prog_12_method_25_code
abbrev y_MO_read : MethodName := ⟨R_MO, "read", "()I"⟩
abbrev w_MO_read : List Cond := (.code ⟨"TextTermsModel", "read", "()I"⟩ prog_12_method_25_code 2 (Option.some Jvm.ClassFile.FieldType.int)) :: tt_T
theorem hv_MO_read : y_MO_read.cls = R_MO ∧ y_MO_read.cls ≠ "java/lang/invoke/MethodHandle" ∧ y_MO_read.cls ≠ "java/lang/invoke/VarHandle" ∧ (parseMethodDescriptor y_MO_read.desc).map (fun d => d.parameters.length) = some 0 := by decide +kernel
theorem d_MO_read_0 : decode b_MO_read 0 = .ok (.aload_n 0, 1) := by decide +kernel
theorem d_MO_read_1 : decode b_MO_read 1 = .ok (.iconst 0, 1) := by decide +kernel
theorem d_MO_read_2 : decode b_MO_read 2 = .ok (.putfield 38, 3) := by decide +kernel
theorem d_MO_read_5 : decode b_MO_read 5 = .ok (.iconst 0, 1) := by decide +kernel
theorem d_MO_read_6 : decode b_MO_read 6 = .ok (.istore_n 1, 1) := by decide +kernel
theorem d_MO_read_7 : decode b_MO_read 7 = .ok (.iload_n 1, 1) := by decide +kernel
theorem d_MO_read_8 : decode b_MO_read 8 = .ok (.aload_n 0, 1) := by decide +kernel
theorem d_MO_read_9 : decode b_MO_read 9 = .ok (.getfield 42, 3) := by decide +kernel
theorem d_MO_read_12 : decode b_MO_read 12 = .ok (.if_icmp .ge 21, 3) := by decide +kernel
theorem d_MO_read_15 : decode b_MO_read 15 = .ok (.aload_n 0, 1) := by decide +kernel
theorem d_MO_read_16 : decode b_MO_read 16 = .ok (.getfield 13, 3) := by decide +kernel
theorem d_MO_read_19 : decode b_MO_read 19 = .ok (.iload_n 1, 1) := by decide +kernel
theorem d_MO_read_20 : decode b_MO_read 20 = .ok (.aload_n 0, 1) := by decide +kernel
theorem d_MO_read_21 : decode b_MO_read 21 = .ok (.getfield 7, 3) := by decide +kernel
theorem d_MO_read_24 : decode b_MO_read 24 = .ok (.iload_n 1, 1) := by decide +kernel
theorem d_MO_read_25 : decode b_MO_read 25 = .ok (.baload, 1) := by decide +kernel
theorem d_MO_read_26 : decode b_MO_read 26 = .ok (.bastore, 1) := by decide +kernel
theorem d_MO_read_27 : decode b_MO_read 27 = .ok (.iinc 1 1, 3) := by decide +kernel
theorem d_MO_read_30 : decode b_MO_read 30 = .ok (.goto (-23), 3) := by decide +kernel
theorem d_MO_read_33 : decode b_MO_read 33 = .ok (.aload_n 0, 1) := by decide +kernel
theorem d_MO_read_34 : decode b_MO_read 34 = .ok (.aload_n 0, 1) := by decide +kernel
theorem d_MO_read_35 : decode b_MO_read 35 = .ok (.getfield 42, 3) := by decide +kernel
theorem d_MO_read_38 : decode b_MO_read 38 = .ok (.putfield 53, 3) := by decide +kernel
theorem d_MO_read_41 : decode b_MO_read 41 = .ok (.aload_n 0, 1) := by decide +kernel
theorem d_MO_read_42 : decode b_MO_read 42 = .ok (.iconst 0, 1) := by decide +kernel
theorem d_MO_read_43 : decode b_MO_read 43 = .ok (.putfield 99, 3) := by decide +kernel
theorem d_MO_read_46 : decode b_MO_read 46 = .ok (.aload_n 0, 1) := by decide +kernel
theorem d_MO_read_47 : decode b_MO_read 47 = .ok (.iconst (-1), 1) := by decide +kernel
theorem d_MO_read_48 : decode b_MO_read 48 = .ok (.putfield 96, 3) := by decide +kernel
theorem d_MO_read_51 : decode b_MO_read 51 = .ok (.aload_n 0, 1) := by decide +kernel
theorem d_MO_read_52 : decode b_MO_read 52 = .ok (.iconst 0, 1) := by decide +kernel
theorem d_MO_read_53 : decode b_MO_read 53 = .ok (.putfield 56, 3) := by decide +kernel
theorem d_MO_read_56 : decode b_MO_read 56 = .ok (.aload_n 0, 1) := by decide +kernel
theorem d_MO_read_57 : decode b_MO_read 57 = .ok (.invokevirtual 110, 3) := by decide +kernel
theorem d_MO_read_60 : decode b_MO_read 60 = .ok (.aload_n 0, 1) := by decide +kernel
theorem d_MO_read_61 : decode b_MO_read 61 = .ok (.iconst (-1), 1) := by decide +kernel
theorem d_MO_read_62 : decode b_MO_read 62 = .ok (.iconst 0, 1) := by decide +kernel
theorem d_MO_read_63 : decode b_MO_read 63 = .ok (.invokevirtual 129, 3) := by decide +kernel
theorem d_MO_read_66 : decode b_MO_read 66 = .ok (.ifCond .eq 20, 3) := by decide +kernel
theorem d_MO_read_69 : decode b_MO_read 69 = .ok (.aload_n 0, 1) := by decide +kernel
theorem d_MO_read_70 : decode b_MO_read 70 = .ok (.getfield 66, 3) := by decide +kernel
theorem d_MO_read_73 : decode b_MO_read 73 = .ok (.iconst 5, 1) := by decide +kernel
theorem d_MO_read_74 : decode b_MO_read 74 = .ok (.if_icmp .eq 10, 3) := by decide +kernel
theorem d_MO_read_77 : decode b_MO_read 77 = .ok (.aload_n 0, 1) := by decide +kernel
theorem d_MO_read_78 : decode b_MO_read 78 = .ok (.invokevirtual 126, 3) := by decide +kernel
theorem d_MO_read_81 : decode b_MO_read 81 = .ok (.ifCond .eq 5, 3) := by decide +kernel
theorem d_MO_read_84 : decode b_MO_read 84 = .ok (.iconst (-1), 1) := by decide +kernel
theorem d_MO_read_85 : decode b_MO_read 85 = .ok (.ireturn, 1) := by decide +kernel
theorem d_MO_read_86 : decode b_MO_read 86 = .ok (.aload_n 0, 1) := by decide +kernel
theorem d_MO_read_87 : decode b_MO_read 87 = .ok (.iconst 0, 1) := by decide +kernel
theorem d_MO_read_88 : decode b_MO_read 88 = .ok (.putfield 99, 3) := by decide +kernel
theorem d_MO_read_91 : decode b_MO_read 91 = .ok (.aload_n 0, 1) := by decide +kernel
theorem d_MO_read_92 : decode b_MO_read 92 = .ok (.getfield 96, 3) := by decide +kernel
theorem d_MO_read_95 : decode b_MO_read 95 = .ok (.ireturn, 1) := by decide +kernel
abbrev b_MO_isTerm : ByteArray := prog_12_method_26_code
abbrev y_MO_isTerm : MethodName := ⟨R_MO, "isTerm", "(I)Z"⟩
abbrev w_MO_isTerm : List Cond := (.code ⟨"TextTermsModel", "isTerm", "(I)Z"⟩ prog_12_method_26_code 2 (Option.some Jvm.ClassFile.FieldType.boolean)) :: tt_T
theorem hv_MO_isTerm : y_MO_isTerm.cls = R_MO ∧ y_MO_isTerm.cls ≠ "java/lang/invoke/MethodHandle" ∧ y_MO_isTerm.cls ≠ "java/lang/invoke/VarHandle" ∧ (parseMethodDescriptor y_MO_isTerm.desc).map (fun d => d.parameters.length) = some 1 := by decide +kernel
theorem d_MO_isTerm_0 : decode b_MO_isTerm 0 = .ok (.aload_n 0, 1) := by decide +kernel
theorem d_MO_isTerm_1 : decode b_MO_isTerm 1 = .ok (.iconst 0, 1) := by decide +kernel
theorem d_MO_isTerm_2 : decode b_MO_isTerm 2 = .ok (.putfield 38, 3) := by decide +kernel
theorem d_MO_isTerm_5 : decode b_MO_isTerm 5 = .ok (.iload_n 1, 1) := by decide +kernel
theorem d_MO_isTerm_6 : decode b_MO_isTerm 6 = .ok (.ifCond .lt 15, 3) := by decide +kernel
theorem d_MO_isTerm_9 : decode b_MO_isTerm 9 = .ok (.iload_n 1, 1) := by decide +kernel
theorem d_MO_isTerm_10 : decode b_MO_isTerm 10 = .ok (.aload_n 0, 1) := by decide +kernel
theorem d_MO_isTerm_11 : decode b_MO_isTerm 11 = .ok (.getfield 99, 3) := by decide +kernel
theorem d_MO_isTerm_14 : decode b_MO_isTerm 14 = .ok (.if_icmp .ge 7, 3) := by decide +kernel
theorem d_MO_isTerm_17 : decode b_MO_isTerm 17 = .ok (.iconst 1, 1) := by decide +kernel
theorem d_MO_isTerm_18 : decode b_MO_isTerm 18 = .ok (.goto 4, 3) := by decide +kernel
theorem d_MO_isTerm_21 : decode b_MO_isTerm 21 = .ok (.iconst 0, 1) := by decide +kernel
theorem d_MO_isTerm_22 : decode b_MO_isTerm 22 = .ok (.ireturn, 1) := by decide +kernel
abbrev b_MO_isKind : ByteArray := prog_12_method_27_code
abbrev y_MO_isKind : MethodName := ⟨R_MO, "isKind", "(II)Z"⟩
abbrev w_MO_isKind : List Cond := (.code ⟨"TextTermsModel", "isKind", "(II)Z"⟩ prog_12_method_27_code 3 (Option.some Jvm.ClassFile.FieldType.boolean)) :: tt_T
theorem hv_MO_isKind : y_MO_isKind.cls = R_MO ∧ y_MO_isKind.cls ≠ "java/lang/invoke/MethodHandle" ∧ y_MO_isKind.cls ≠ "java/lang/invoke/VarHandle" ∧ (parseMethodDescriptor y_MO_isKind.desc).map (fun d => d.parameters.length) = some 2 := by decide +kernel
theorem d_MO_isKind_0 : decode b_MO_isKind 0 = .ok (.aload_n 0, 1) := by decide +kernel
theorem d_MO_isKind_1 : decode b_MO_isKind 1 = .ok (.iload_n 1, 1) := by decide +kernel
theorem d_MO_isKind_2 : decode b_MO_isKind 2 = .ok (.invokevirtual 132, 3) := by decide +kernel
theorem d_MO_isKind_5 : decode b_MO_isKind 5 = .ok (.ifCond .eq 17, 3) := by decide +kernel
theorem d_MO_isKind_8 : decode b_MO_isKind 8 = .ok (.aload_n 0, 1) := by decide +kernel
theorem d_MO_isKind_9 : decode b_MO_isKind 9 = .ok (.getfield 16, 3) := by decide +kernel
theorem d_MO_isKind_12 : decode b_MO_isKind 12 = .ok (.iload_n 1, 1) := by decide +kernel
theorem d_MO_isKind_13 : decode b_MO_isKind 13 = .ok (.baload, 1) := by decide +kernel
theorem d_MO_isKind_14 : decode b_MO_isKind 14 = .ok (.iload_n 2, 1) := by decide +kernel
theorem d_MO_isKind_15 : decode b_MO_isKind 15 = .ok (.if_icmp .ne 7, 3) := by decide +kernel
theorem d_MO_isKind_18 : decode b_MO_isKind 18 = .ok (.iconst 1, 1) := by decide +kernel
theorem d_MO_isKind_19 : decode b_MO_isKind 19 = .ok (.goto 4, 3) := by decide +kernel
theorem d_MO_isKind_22 : decode b_MO_isKind 22 = .ok (.iconst 0, 1) := by decide +kernel
theorem d_MO_isKind_23 : decode b_MO_isKind 23 = .ok (.ireturn, 1) := by decide +kernel
abbrev b_MO_count : ByteArray := prog_12_method_28_code
abbrev y_MO_count : MethodName := ⟨R_MO, "count", "()I"⟩
abbrev w_MO_count : List Cond := (.code ⟨"TextTermsModel", "count", "()I"⟩ prog_12_method_28_code 1 (Option.some Jvm.ClassFile.FieldType.int)) :: tt_T
theorem hv_MO_count : y_MO_count.cls = R_MO ∧ y_MO_count.cls ≠ "java/lang/invoke/MethodHandle" ∧ y_MO_count.cls ≠ "java/lang/invoke/VarHandle" ∧ (parseMethodDescriptor y_MO_count.desc).map (fun d => d.parameters.length) = some 0 := by decide +kernel
theorem d_MO_count_0 : decode b_MO_count 0 = .ok (.aload_n 0, 1) := by decide +kernel
theorem d_MO_count_1 : decode b_MO_count 1 = .ok (.iconst 0, 1) := by decide +kernel
theorem d_MO_count_2 : decode b_MO_count 2 = .ok (.putfield 38, 3) := by decide +kernel
theorem d_MO_count_5 : decode b_MO_count 5 = .ok (.aload_n 0, 1) := by decide +kernel
theorem d_MO_count_6 : decode b_MO_count 6 = .ok (.getfield 99, 3) := by decide +kernel
theorem d_MO_count_9 : decode b_MO_count 9 = .ok (.ireturn, 1) := by decide +kernel
abbrev b_MO_kind : ByteArray := prog_12_method_29_code
abbrev y_MO_kind : MethodName := ⟨R_MO, "kind", "(I)I"⟩
abbrev w_MO_kind : List Cond := (.code ⟨"TextTermsModel", "kind", "(I)I"⟩ prog_12_method_29_code 2 (Option.some Jvm.ClassFile.FieldType.int)) :: tt_T
theorem hv_MO_kind : y_MO_kind.cls = R_MO ∧ y_MO_kind.cls ≠ "java/lang/invoke/MethodHandle" ∧ y_MO_kind.cls ≠ "java/lang/invoke/VarHandle" ∧ (parseMethodDescriptor y_MO_kind.desc).map (fun d => d.parameters.length) = some 1 := by decide +kernel
theorem d_MO_kind_0 : decode b_MO_kind 0 = .ok (.aload_n 0, 1) := by decide +kernel
theorem d_MO_kind_1 : decode b_MO_kind 1 = .ok (.iload_n 1, 1) := by decide +kernel
theorem d_MO_kind_2 : decode b_MO_kind 2 = .ok (.invokevirtual 132, 3) := by decide +kernel
theorem d_MO_kind_5 : decode b_MO_kind 5 = .ok (.ifCond .eq 12, 3) := by decide +kernel
theorem d_MO_kind_8 : decode b_MO_kind 8 = .ok (.aload_n 0, 1) := by decide +kernel
theorem d_MO_kind_9 : decode b_MO_kind 9 = .ok (.getfield 16, 3) := by decide +kernel
theorem d_MO_kind_12 : decode b_MO_kind 12 = .ok (.iload_n 1, 1) := by decide +kernel
theorem d_MO_kind_13 : decode b_MO_kind 13 = .ok (.baload, 1) := by decide +kernel
theorem d_MO_kind_14 : decode b_MO_kind 14 = .ok (.goto 4, 3) := by decide +kernel
theorem d_MO_kind_17 : decode b_MO_kind 17 = .ok (.iconst (-1), 1) := by decide +kernel
theorem d_MO_kind_18 : decode b_MO_kind 18 = .ok (.ireturn, 1) := by decide +kernel
abbrev b_MO_parent : ByteArray := prog_12_method_30_code
abbrev y_MO_parent : MethodName := ⟨R_MO, "parent", "(I)I"⟩
abbrev w_MO_parent : List Cond := (.code ⟨"TextTermsModel", "parent", "(I)I"⟩ prog_12_method_30_code 2 (Option.some Jvm.ClassFile.FieldType.int)) :: tt_T
theorem hv_MO_parent : y_MO_parent.cls = R_MO ∧ y_MO_parent.cls ≠ "java/lang/invoke/MethodHandle" ∧ y_MO_parent.cls ≠ "java/lang/invoke/VarHandle" ∧ (parseMethodDescriptor y_MO_parent.desc).map (fun d => d.parameters.length) = some 1 := by decide +kernel
theorem d_MO_parent_0 : decode b_MO_parent 0 = .ok (.aload_n 0, 1) := by decide +kernel
theorem d_MO_parent_1 : decode b_MO_parent 1 = .ok (.iload_n 1, 1) := by decide +kernel
theorem d_MO_parent_2 : decode b_MO_parent 2 = .ok (.invokevirtual 132, 3) := by decide +kernel
theorem d_MO_parent_5 : decode b_MO_parent 5 = .ok (.ifCond .eq 12, 3) := by decide +kernel
theorem d_MO_parent_8 : decode b_MO_parent 8 = .ok (.aload_n 0, 1) := by decide +kernel
theorem d_MO_parent_9 : decode b_MO_parent 9 = .ok (.getfield 19, 3) := by decide +kernel
theorem d_MO_parent_12 : decode b_MO_parent 12 = .ok (.iload_n 1, 1) := by decide +kernel
theorem d_MO_parent_13 : decode b_MO_parent 13 = .ok (.iaload, 1) := by decide +kernel
theorem d_MO_parent_14 : decode b_MO_parent 14 = .ok (.goto 4, 3) := by decide +kernel
theorem d_MO_parent_17 : decode b_MO_parent 17 = .ok (.iconst (-1), 1) := by decide +kernel
theorem d_MO_parent_18 : decode b_MO_parent 18 = .ok (.ireturn, 1) := by decide +kernel
abbrev b_MO_arguments : ByteArray := prog_12_method_31_code
abbrev y_MO_arguments : MethodName := ⟨R_MO, "arguments", "(I)I"⟩
abbrev w_MO_arguments : List Cond := (.code ⟨"TextTermsModel", "arguments", "(I)I"⟩ prog_12_method_31_code 4 (Option.some Jvm.ClassFile.FieldType.int)) :: tt_T
theorem hv_MO_arguments : y_MO_arguments.cls = R_MO ∧ y_MO_arguments.cls ≠ "java/lang/invoke/MethodHandle" ∧ y_MO_arguments.cls ≠ "java/lang/invoke/VarHandle" ∧ (parseMethodDescriptor y_MO_arguments.desc).map (fun d => d.parameters.length) = some 1 := by decide +kernel
theorem d_MO_arguments_0 : decode b_MO_arguments 0 = .ok (.aload_n 0, 1) := by decide +kernel
theorem d_MO_arguments_1 : decode b_MO_arguments 1 = .ok (.iload_n 1, 1) := by decide +kernel
theorem d_MO_arguments_2 : decode b_MO_arguments 2 = .ok (.invokevirtual 132, 3) := by decide +kernel
theorem d_MO_arguments_5 : decode b_MO_arguments 5 = .ok (.ifCond .ne 5, 3) := by decide +kernel
theorem d_MO_arguments_8 : decode b_MO_arguments 8 = .ok (.iconst (-1), 1) := by decide +kernel
theorem d_MO_arguments_9 : decode b_MO_arguments 9 = .ok (.ireturn, 1) := by decide +kernel
theorem d_MO_arguments_10 : decode b_MO_arguments 10 = .ok (.iconst 0, 1) := by decide +kernel
theorem d_MO_arguments_11 : decode b_MO_arguments 11 = .ok (.istore_n 2, 1) := by decide +kernel
theorem d_MO_arguments_12 : decode b_MO_arguments 12 = .ok (.iload_n 1, 1) := by decide +kernel
theorem d_MO_arguments_13 : decode b_MO_arguments 13 = .ok (.iconst 1, 1) := by decide +kernel
theorem d_MO_arguments_14 : decode b_MO_arguments 14 = .ok (.iadd, 1) := by decide +kernel
theorem d_MO_arguments_15 : decode b_MO_arguments 15 = .ok (.istore_n 3, 1) := by decide +kernel
theorem d_MO_arguments_16 : decode b_MO_arguments 16 = .ok (.iload_n 3, 1) := by decide +kernel
theorem d_MO_arguments_17 : decode b_MO_arguments 17 = .ok (.aload_n 0, 1) := by decide +kernel
theorem d_MO_arguments_18 : decode b_MO_arguments 18 = .ok (.getfield 99, 3) := by decide +kernel
theorem d_MO_arguments_21 : decode b_MO_arguments 21 = .ok (.if_icmp .ge 27, 3) := by decide +kernel
theorem d_MO_arguments_24 : decode b_MO_arguments 24 = .ok (.aload_n 0, 1) := by decide +kernel
theorem d_MO_arguments_25 : decode b_MO_arguments 25 = .ok (.getfield 19, 3) := by decide +kernel
theorem d_MO_arguments_28 : decode b_MO_arguments 28 = .ok (.iload_n 3, 1) := by decide +kernel
theorem d_MO_arguments_29 : decode b_MO_arguments 29 = .ok (.iaload, 1) := by decide +kernel
theorem d_MO_arguments_30 : decode b_MO_arguments 30 = .ok (.iload_n 1, 1) := by decide +kernel
theorem d_MO_arguments_31 : decode b_MO_arguments 31 = .ok (.if_icmp .ne 9, 3) := by decide +kernel
theorem d_MO_arguments_34 : decode b_MO_arguments 34 = .ok (.iload_n 2, 1) := by decide +kernel
theorem d_MO_arguments_35 : decode b_MO_arguments 35 = .ok (.iconst 1, 1) := by decide +kernel
theorem d_MO_arguments_36 : decode b_MO_arguments 36 = .ok (.iadd, 1) := by decide +kernel
theorem d_MO_arguments_37 : decode b_MO_arguments 37 = .ok (.goto 4, 3) := by decide +kernel
theorem d_MO_arguments_40 : decode b_MO_arguments 40 = .ok (.iload_n 2, 1) := by decide +kernel
theorem d_MO_arguments_41 : decode b_MO_arguments 41 = .ok (.istore_n 2, 1) := by decide +kernel
theorem d_MO_arguments_42 : decode b_MO_arguments 42 = .ok (.iinc 3 1, 3) := by decide +kernel
theorem d_MO_arguments_45 : decode b_MO_arguments 45 = .ok (.goto (-29), 3) := by decide +kernel
theorem d_MO_arguments_48 : decode b_MO_arguments 48 = .ok (.iload_n 2, 1) := by decide +kernel
theorem d_MO_arguments_49 : decode b_MO_arguments 49 = .ok (.ireturn, 1) := by decide +kernel
abbrev b_MO_argument : ByteArray := prog_12_method_32_code
abbrev y_MO_argument : MethodName := ⟨R_MO, "argument", "(II)I"⟩
abbrev w_MO_argument : List Cond := (.code ⟨"TextTermsModel", "argument", "(II)I"⟩ prog_12_method_32_code 5 (Option.some Jvm.ClassFile.FieldType.int)) :: tt_T
theorem hv_MO_argument : y_MO_argument.cls = R_MO ∧ y_MO_argument.cls ≠ "java/lang/invoke/MethodHandle" ∧ y_MO_argument.cls ≠ "java/lang/invoke/VarHandle" ∧ (parseMethodDescriptor y_MO_argument.desc).map (fun d => d.parameters.length) = some 2 := by decide +kernel
theorem d_MO_argument_0 : decode b_MO_argument 0 = .ok (.aload_n 0, 1) := by decide +kernel
theorem d_MO_argument_1 : decode b_MO_argument 1 = .ok (.iload_n 1, 1) := by decide +kernel
theorem d_MO_argument_2 : decode b_MO_argument 2 = .ok (.invokevirtual 132, 3) := by decide +kernel
theorem d_MO_argument_5 : decode b_MO_argument 5 = .ok (.ifCond .eq 7, 3) := by decide +kernel
theorem d_MO_argument_8 : decode b_MO_argument 8 = .ok (.iload_n 2, 1) := by decide +kernel
theorem d_MO_argument_9 : decode b_MO_argument 9 = .ok (.ifCond .ge 5, 3) := by decide +kernel
theorem d_MO_argument_12 : decode b_MO_argument 12 = .ok (.iconst (-1), 1) := by decide +kernel
theorem d_MO_argument_13 : decode b_MO_argument 13 = .ok (.ireturn, 1) := by decide +kernel
theorem d_MO_argument_14 : decode b_MO_argument 14 = .ok (.iconst 0, 1) := by decide +kernel
theorem d_MO_argument_15 : decode b_MO_argument 15 = .ok (.istore_n 3, 1) := by decide +kernel
theorem d_MO_argument_16 : decode b_MO_argument 16 = .ok (.iload_n 1, 1) := by decide +kernel
theorem d_MO_argument_17 : decode b_MO_argument 17 = .ok (.iconst 1, 1) := by decide +kernel
theorem d_MO_argument_18 : decode b_MO_argument 18 = .ok (.iadd, 1) := by decide +kernel
theorem d_MO_argument_19 : decode b_MO_argument 19 = .ok (.istore 4, 2) := by decide +kernel
theorem d_MO_argument_21 : decode b_MO_argument 21 = .ok (.iload 4, 2) := by decide +kernel
theorem d_MO_argument_23 : decode b_MO_argument 23 = .ok (.aload_n 0, 1) := by decide +kernel
theorem d_MO_argument_24 : decode b_MO_argument 24 = .ok (.getfield 99, 3) := by decide +kernel
theorem d_MO_argument_27 : decode b_MO_argument 27 = .ok (.if_icmp .ge 31, 3) := by decide +kernel
theorem d_MO_argument_30 : decode b_MO_argument 30 = .ok (.aload_n 0, 1) := by decide +kernel
theorem d_MO_argument_31 : decode b_MO_argument 31 = .ok (.getfield 19, 3) := by decide +kernel
theorem d_MO_argument_34 : decode b_MO_argument 34 = .ok (.iload 4, 2) := by decide +kernel
theorem d_MO_argument_36 : decode b_MO_argument 36 = .ok (.iaload, 1) := by decide +kernel
theorem d_MO_argument_37 : decode b_MO_argument 37 = .ok (.iload_n 1, 1) := by decide +kernel
theorem d_MO_argument_38 : decode b_MO_argument 38 = .ok (.if_icmp .ne 14, 3) := by decide +kernel
theorem d_MO_argument_41 : decode b_MO_argument 41 = .ok (.iload_n 3, 1) := by decide +kernel
theorem d_MO_argument_42 : decode b_MO_argument 42 = .ok (.iload_n 2, 1) := by decide +kernel
theorem d_MO_argument_43 : decode b_MO_argument 43 = .ok (.if_icmp .ne 6, 3) := by decide +kernel
theorem d_MO_argument_46 : decode b_MO_argument 46 = .ok (.iload 4, 2) := by decide +kernel
theorem d_MO_argument_48 : decode b_MO_argument 48 = .ok (.ireturn, 1) := by decide +kernel
theorem d_MO_argument_49 : decode b_MO_argument 49 = .ok (.iinc 3 1, 3) := by decide +kernel
theorem d_MO_argument_52 : decode b_MO_argument 52 = .ok (.iinc 4 1, 3) := by decide +kernel
theorem d_MO_argument_55 : decode b_MO_argument 55 = .ok (.goto (-34), 3) := by decide +kernel
theorem d_MO_argument_58 : decode b_MO_argument 58 = .ok (.iconst (-1), 1) := by decide +kernel
theorem d_MO_argument_59 : decode b_MO_argument 59 = .ok (.ireturn, 1) := by decide +kernel
abbrev b_MO_size : ByteArray := prog_12_method_33_code
abbrev y_MO_size : MethodName := ⟨R_MO, "size", "(I)I"⟩
abbrev w_MO_size : List Cond := (.code ⟨"TextTermsModel", "size", "(I)I"⟩ prog_12_method_33_code 5 (Option.some Jvm.ClassFile.FieldType.int)) :: tt_T
theorem hv_MO_size : y_MO_size.cls = R_MO ∧ y_MO_size.cls ≠ "java/lang/invoke/MethodHandle" ∧ y_MO_size.cls ≠ "java/lang/invoke/VarHandle" ∧ (parseMethodDescriptor y_MO_size.desc).map (fun d => d.parameters.length) = some 1 := by decide +kernel
theorem d_MO_size_0 : decode b_MO_size 0 = .ok (.aload_n 0, 1) := by decide +kernel
theorem d_MO_size_1 : decode b_MO_size 1 = .ok (.iload_n 1, 1) := by decide +kernel
theorem d_MO_size_2 : decode b_MO_size 2 = .ok (.invokevirtual 132, 3) := by decide +kernel
theorem d_MO_size_5 : decode b_MO_size 5 = .ok (.ifCond .ne 5, 3) := by decide +kernel
theorem d_MO_size_8 : decode b_MO_size 8 = .ok (.iconst (-1), 1) := by decide +kernel
theorem d_MO_size_9 : decode b_MO_size 9 = .ok (.ireturn, 1) := by decide +kernel
theorem d_MO_size_10 : decode b_MO_size 10 = .ok (.iconst 0, 1) := by decide +kernel
theorem d_MO_size_11 : decode b_MO_size 11 = .ok (.istore_n 2, 1) := by decide +kernel
theorem d_MO_size_12 : decode b_MO_size 12 = .ok (.iload_n 1, 1) := by decide +kernel
theorem d_MO_size_13 : decode b_MO_size 13 = .ok (.istore_n 3, 1) := by decide +kernel
theorem d_MO_size_14 : decode b_MO_size 14 = .ok (.iload_n 3, 1) := by decide +kernel
theorem d_MO_size_15 : decode b_MO_size 15 = .ok (.aload_n 0, 1) := by decide +kernel
theorem d_MO_size_16 : decode b_MO_size 16 = .ok (.getfield 99, 3) := by decide +kernel
theorem d_MO_size_19 : decode b_MO_size 19 = .ok (.if_icmp .ge 44, 3) := by decide +kernel
theorem d_MO_size_22 : decode b_MO_size 22 = .ok (.iload_n 3, 1) := by decide +kernel
theorem d_MO_size_23 : decode b_MO_size 23 = .ok (.istore 4, 2) := by decide +kernel
theorem d_MO_size_25 : decode b_MO_size 25 = .ok (.iload 4, 2) := by decide +kernel
theorem d_MO_size_27 : decode b_MO_size 27 = .ok (.iload_n 1, 1) := by decide +kernel
theorem d_MO_size_28 : decode b_MO_size 28 = .ok (.if_icmp .le 15, 3) := by decide +kernel
theorem d_MO_size_31 : decode b_MO_size 31 = .ok (.aload_n 0, 1) := by decide +kernel
theorem d_MO_size_32 : decode b_MO_size 32 = .ok (.getfield 19, 3) := by decide +kernel
theorem d_MO_size_35 : decode b_MO_size 35 = .ok (.iload 4, 2) := by decide +kernel
theorem d_MO_size_37 : decode b_MO_size 37 = .ok (.iaload, 1) := by decide +kernel
theorem d_MO_size_38 : decode b_MO_size 38 = .ok (.istore 4, 2) := by decide +kernel
theorem d_MO_size_40 : decode b_MO_size 40 = .ok (.goto (-15), 3) := by decide +kernel
theorem d_MO_size_43 : decode b_MO_size 43 = .ok (.iload 4, 2) := by decide +kernel
theorem d_MO_size_45 : decode b_MO_size 45 = .ok (.iload_n 1, 1) := by decide +kernel
theorem d_MO_size_46 : decode b_MO_size 46 = .ok (.if_icmp .ne 9, 3) := by decide +kernel
theorem d_MO_size_49 : decode b_MO_size 49 = .ok (.iload_n 2, 1) := by decide +kernel
theorem d_MO_size_50 : decode b_MO_size 50 = .ok (.iconst 1, 1) := by decide +kernel
theorem d_MO_size_51 : decode b_MO_size 51 = .ok (.iadd, 1) := by decide +kernel
theorem d_MO_size_52 : decode b_MO_size 52 = .ok (.goto 4, 3) := by decide +kernel
theorem d_MO_size_55 : decode b_MO_size 55 = .ok (.iload_n 2, 1) := by decide +kernel
theorem d_MO_size_56 : decode b_MO_size 56 = .ok (.istore_n 2, 1) := by decide +kernel
theorem d_MO_size_57 : decode b_MO_size 57 = .ok (.iinc 3 1, 3) := by decide +kernel
theorem d_MO_size_60 : decode b_MO_size 60 = .ok (.goto (-46), 3) := by decide +kernel
theorem d_MO_size_63 : decode b_MO_size 63 = .ok (.iload_n 2, 1) := by decide +kernel
theorem d_MO_size_64 : decode b_MO_size 64 = .ok (.ireturn, 1) := by decide +kernel
abbrev b_MO_word : ByteArray := prog_12_method_34_code
abbrev y_MO_word : MethodName := ⟨R_MO, "word", "(I)I"⟩
abbrev w_MO_word : List Cond := (.code ⟨"TextTermsModel", "word", "(I)I"⟩ prog_12_method_34_code 5 (Option.some Jvm.ClassFile.FieldType.int)) :: tt_T
theorem hv_MO_word : y_MO_word.cls = R_MO ∧ y_MO_word.cls ≠ "java/lang/invoke/MethodHandle" ∧ y_MO_word.cls ≠ "java/lang/invoke/VarHandle" ∧ (parseMethodDescriptor y_MO_word.desc).map (fun d => d.parameters.length) = some 1 := by decide +kernel
theorem d_MO_word_0 : decode b_MO_word 0 = .ok (.aload_n 0, 1) := by decide +kernel
theorem d_MO_word_1 : decode b_MO_word 1 = .ok (.iload_n 1, 1) := by decide +kernel
theorem d_MO_word_2 : decode b_MO_word 2 = .ok (.iconst 4, 1) := by decide +kernel
theorem d_MO_word_3 : decode b_MO_word 3 = .ok (.invokevirtual 135, 3) := by decide +kernel
theorem d_MO_word_6 : decode b_MO_word 6 = .ok (.ifCond .ne 5, 3) := by decide +kernel
theorem d_MO_word_9 : decode b_MO_word 9 = .ok (.iconst (-1), 1) := by decide +kernel
theorem d_MO_word_10 : decode b_MO_word 10 = .ok (.ireturn, 1) := by decide +kernel
theorem d_MO_word_11 : decode b_MO_word 11 = .ok (.iconst 0, 1) := by decide +kernel
theorem d_MO_word_12 : decode b_MO_word 12 = .ok (.istore_n 2, 1) := by decide +kernel
theorem d_MO_word_13 : decode b_MO_word 13 = .ok (.iconst 0, 1) := by decide +kernel
theorem d_MO_word_14 : decode b_MO_word 14 = .ok (.istore_n 3, 1) := by decide +kernel
theorem d_MO_word_15 : decode b_MO_word 15 = .ok (.iconst 0, 1) := by decide +kernel
theorem d_MO_word_16 : decode b_MO_word 16 = .ok (.istore 4, 2) := by decide +kernel
theorem d_MO_word_18 : decode b_MO_word 18 = .ok (.iload 4, 2) := by decide +kernel
theorem d_MO_word_20 : decode b_MO_word 20 = .ok (.ldc 138, 2) := by decide +kernel
theorem d_MO_word_22 : decode b_MO_word 22 = .ok (.invokevirtual 140, 3) := by decide +kernel
theorem d_MO_word_25 : decode b_MO_word 25 = .ok (.if_icmp .ge 42, 3) := by decide +kernel
theorem d_MO_word_28 : decode b_MO_word 28 = .ok (.ldc 138, 2) := by decide +kernel
theorem d_MO_word_30 : decode b_MO_word 30 = .ok (.iload 4, 2) := by decide +kernel
theorem d_MO_word_32 : decode b_MO_word 32 = .ok (.invokevirtual 144, 3) := by decide +kernel
theorem d_MO_word_35 : decode b_MO_word 35 = .ok (.bipush 32, 2) := by decide +kernel
theorem d_MO_word_37 : decode b_MO_word 37 = .ok (.if_icmp .ne 24, 3) := by decide +kernel
theorem d_MO_word_40 : decode b_MO_word 40 = .ok (.aload_n 0, 1) := by decide +kernel
theorem d_MO_word_41 : decode b_MO_word 41 = .ok (.iload_n 1, 1) := by decide +kernel
theorem d_MO_word_42 : decode b_MO_word 42 = .ok (.iload_n 3, 1) := by decide +kernel
theorem d_MO_word_43 : decode b_MO_word 43 = .ok (.iload 4, 2) := by decide +kernel
theorem d_MO_word_45 : decode b_MO_word 45 = .ok (.invokevirtual 148, 3) := by decide +kernel
theorem d_MO_word_48 : decode b_MO_word 48 = .ok (.ifCond .eq 5, 3) := by decide +kernel
theorem d_MO_word_51 : decode b_MO_word 51 = .ok (.iload_n 2, 1) := by decide +kernel
theorem d_MO_word_52 : decode b_MO_word 52 = .ok (.ireturn, 1) := by decide +kernel
theorem d_MO_word_53 : decode b_MO_word 53 = .ok (.iinc 2 1, 3) := by decide +kernel
theorem d_MO_word_56 : decode b_MO_word 56 = .ok (.iload 4, 2) := by decide +kernel
theorem d_MO_word_58 : decode b_MO_word 58 = .ok (.iconst 1, 1) := by decide +kernel
theorem d_MO_word_59 : decode b_MO_word 59 = .ok (.iadd, 1) := by decide +kernel
theorem d_MO_word_60 : decode b_MO_word 60 = .ok (.istore_n 3, 1) := by decide +kernel
theorem d_MO_word_61 : decode b_MO_word 61 = .ok (.iinc 4 1, 3) := by decide +kernel
theorem d_MO_word_64 : decode b_MO_word 64 = .ok (.goto (-46), 3) := by decide +kernel
theorem d_MO_word_67 : decode b_MO_word 67 = .ok (.iconst (-1), 1) := by decide +kernel
theorem d_MO_word_68 : decode b_MO_word 68 = .ok (.ireturn, 1) := by decide +kernel
abbrev b_MO_isWord : ByteArray := prog_12_method_35_code
abbrev y_MO_isWord : MethodName := ⟨R_MO, "isWord", "(III)Z"⟩
abbrev w_MO_isWord : List Cond := (.code ⟨"TextTermsModel", "isWord", "(III)Z"⟩ prog_12_method_35_code 6 (Option.some Jvm.ClassFile.FieldType.boolean)) :: tt_T
theorem hv_MO_isWord : y_MO_isWord.cls = R_MO ∧ y_MO_isWord.cls ≠ "java/lang/invoke/MethodHandle" ∧ y_MO_isWord.cls ≠ "java/lang/invoke/VarHandle" ∧ (parseMethodDescriptor y_MO_isWord.desc).map (fun d => d.parameters.length) = some 3 := by decide +kernel
theorem d_MO_isWord_0 : decode b_MO_isWord 0 = .ok (.iload_n 3, 1) := by decide +kernel
theorem d_MO_isWord_1 : decode b_MO_isWord 1 = .ok (.iload_n 2, 1) := by decide +kernel
theorem d_MO_isWord_2 : decode b_MO_isWord 2 = .ok (.isub, 1) := by decide +kernel
theorem d_MO_isWord_3 : decode b_MO_isWord 3 = .ok (.istore 4, 2) := by decide +kernel
theorem d_MO_isWord_5 : decode b_MO_isWord 5 = .ok (.iconst 0, 1) := by decide +kernel
theorem d_MO_isWord_6 : decode b_MO_isWord 6 = .ok (.istore 5, 2) := by decide +kernel
theorem d_MO_isWord_8 : decode b_MO_isWord 8 = .ok (.iload 4, 2) := by decide +kernel
theorem d_MO_isWord_10 : decode b_MO_isWord 10 = .ok (.aload_n 0, 1) := by decide +kernel
theorem d_MO_isWord_11 : decode b_MO_isWord 11 = .ok (.getfield 26, 3) := by decide +kernel
theorem d_MO_isWord_14 : decode b_MO_isWord 14 = .ok (.iload_n 1, 1) := by decide +kernel
theorem d_MO_isWord_15 : decode b_MO_isWord 15 = .ok (.iaload, 1) := by decide +kernel
theorem d_MO_isWord_16 : decode b_MO_isWord 16 = .ok (.aload_n 0, 1) := by decide +kernel
theorem d_MO_isWord_17 : decode b_MO_isWord 17 = .ok (.getfield 23, 3) := by decide +kernel
theorem d_MO_isWord_20 : decode b_MO_isWord 20 = .ok (.iload_n 1, 1) := by decide +kernel
theorem d_MO_isWord_21 : decode b_MO_isWord 21 = .ok (.iaload, 1) := by decide +kernel
theorem d_MO_isWord_22 : decode b_MO_isWord 22 = .ok (.isub, 1) := by decide +kernel
theorem d_MO_isWord_23 : decode b_MO_isWord 23 = .ok (.if_icmp .ne 42, 3) := by decide +kernel
theorem d_MO_isWord_26 : decode b_MO_isWord 26 = .ok (.iload 5, 2) := by decide +kernel
theorem d_MO_isWord_28 : decode b_MO_isWord 28 = .ok (.iload 4, 2) := by decide +kernel
theorem d_MO_isWord_30 : decode b_MO_isWord 30 = .ok (.if_icmp .ge 35, 3) := by decide +kernel
theorem d_MO_isWord_33 : decode b_MO_isWord 33 = .ok (.aload_n 0, 1) := by decide +kernel
theorem d_MO_isWord_34 : decode b_MO_isWord 34 = .ok (.getfield 13, 3) := by decide +kernel
theorem d_MO_isWord_37 : decode b_MO_isWord 37 = .ok (.aload_n 0, 1) := by decide +kernel
theorem d_MO_isWord_38 : decode b_MO_isWord 38 = .ok (.getfield 23, 3) := by decide +kernel
theorem d_MO_isWord_41 : decode b_MO_isWord 41 = .ok (.iload_n 1, 1) := by decide +kernel
theorem d_MO_isWord_42 : decode b_MO_isWord 42 = .ok (.iaload, 1) := by decide +kernel
theorem d_MO_isWord_43 : decode b_MO_isWord 43 = .ok (.iload 5, 2) := by decide +kernel
theorem d_MO_isWord_45 : decode b_MO_isWord 45 = .ok (.iadd, 1) := by decide +kernel
theorem d_MO_isWord_46 : decode b_MO_isWord 46 = .ok (.baload, 1) := by decide +kernel
theorem d_MO_isWord_47 : decode b_MO_isWord 47 = .ok (.ldc 138, 2) := by decide +kernel
theorem d_MO_isWord_49 : decode b_MO_isWord 49 = .ok (.iload_n 2, 1) := by decide +kernel
theorem d_MO_isWord_50 : decode b_MO_isWord 50 = .ok (.iload 5, 2) := by decide +kernel
theorem d_MO_isWord_52 : decode b_MO_isWord 52 = .ok (.iadd, 1) := by decide +kernel
theorem d_MO_isWord_53 : decode b_MO_isWord 53 = .ok (.invokevirtual 144, 3) := by decide +kernel
theorem d_MO_isWord_56 : decode b_MO_isWord 56 = .ok (.if_icmp .ne 9, 3) := by decide +kernel
theorem d_MO_isWord_59 : decode b_MO_isWord 59 = .ok (.iinc 5 1, 3) := by decide +kernel
theorem d_MO_isWord_62 : decode b_MO_isWord 62 = .ok (.goto (-54), 3) := by decide +kernel
theorem d_MO_isWord_65 : decode b_MO_isWord 65 = .ok (.iload 5, 2) := by decide +kernel
theorem d_MO_isWord_67 : decode b_MO_isWord 67 = .ok (.iload 4, 2) := by decide +kernel
theorem d_MO_isWord_69 : decode b_MO_isWord 69 = .ok (.if_icmp .ne 7, 3) := by decide +kernel
theorem d_MO_isWord_72 : decode b_MO_isWord 72 = .ok (.iconst 1, 1) := by decide +kernel
theorem d_MO_isWord_73 : decode b_MO_isWord 73 = .ok (.goto 4, 3) := by decide +kernel
theorem d_MO_isWord_76 : decode b_MO_isWord 76 = .ok (.iconst 0, 1) := by decide +kernel
theorem d_MO_isWord_77 : decode b_MO_isWord 77 = .ok (.ireturn, 1) := by decide +kernel
abbrev b_MO_begins : ByteArray := prog_12_method_36_code
abbrev y_MO_begins : MethodName := ⟨R_MO, "begins", "(I)I"⟩
abbrev w_MO_begins : List Cond := (.code ⟨"TextTermsModel", "begins", "(I)I"⟩ prog_12_method_36_code 2 (Option.some Jvm.ClassFile.FieldType.int)) :: tt_T
theorem hv_MO_begins : y_MO_begins.cls = R_MO ∧ y_MO_begins.cls ≠ "java/lang/invoke/MethodHandle" ∧ y_MO_begins.cls ≠ "java/lang/invoke/VarHandle" ∧ (parseMethodDescriptor y_MO_begins.desc).map (fun d => d.parameters.length) = some 1 := by decide +kernel
theorem d_MO_begins_0 : decode b_MO_begins 0 = .ok (.aload_n 0, 1) := by decide +kernel
theorem d_MO_begins_1 : decode b_MO_begins 1 = .ok (.iload_n 1, 1) := by decide +kernel
theorem d_MO_begins_2 : decode b_MO_begins 2 = .ok (.invokevirtual 132, 3) := by decide +kernel
theorem d_MO_begins_5 : decode b_MO_begins 5 = .ok (.ifCond .eq 12, 3) := by decide +kernel
theorem d_MO_begins_8 : decode b_MO_begins 8 = .ok (.aload_n 0, 1) := by decide +kernel
theorem d_MO_begins_9 : decode b_MO_begins 9 = .ok (.getfield 23, 3) := by decide +kernel
theorem d_MO_begins_12 : decode b_MO_begins 12 = .ok (.iload_n 1, 1) := by decide +kernel
theorem d_MO_begins_13 : decode b_MO_begins 13 = .ok (.iaload, 1) := by decide +kernel
theorem d_MO_begins_14 : decode b_MO_begins 14 = .ok (.goto 4, 3) := by decide +kernel
theorem d_MO_begins_17 : decode b_MO_begins 17 = .ok (.iconst (-1), 1) := by decide +kernel
theorem d_MO_begins_18 : decode b_MO_begins 18 = .ok (.ireturn, 1) := by decide +kernel
abbrev b_MO_ends : ByteArray := prog_12_method_37_code
abbrev y_MO_ends : MethodName := ⟨R_MO, "ends", "(I)I"⟩
abbrev w_MO_ends : List Cond := (.code ⟨"TextTermsModel", "ends", "(I)I"⟩ prog_12_method_37_code 2 (Option.some Jvm.ClassFile.FieldType.int)) :: tt_T
theorem hv_MO_ends : y_MO_ends.cls = R_MO ∧ y_MO_ends.cls ≠ "java/lang/invoke/MethodHandle" ∧ y_MO_ends.cls ≠ "java/lang/invoke/VarHandle" ∧ (parseMethodDescriptor y_MO_ends.desc).map (fun d => d.parameters.length) = some 1 := by decide +kernel
theorem d_MO_ends_0 : decode b_MO_ends 0 = .ok (.aload_n 0, 1) := by decide +kernel
theorem d_MO_ends_1 : decode b_MO_ends 1 = .ok (.iload_n 1, 1) := by decide +kernel
theorem d_MO_ends_2 : decode b_MO_ends 2 = .ok (.invokevirtual 132, 3) := by decide +kernel
theorem d_MO_ends_5 : decode b_MO_ends 5 = .ok (.ifCond .eq 12, 3) := by decide +kernel
theorem d_MO_ends_8 : decode b_MO_ends 8 = .ok (.aload_n 0, 1) := by decide +kernel
theorem d_MO_ends_9 : decode b_MO_ends 9 = .ok (.getfield 26, 3) := by decide +kernel
theorem d_MO_ends_12 : decode b_MO_ends 12 = .ok (.iload_n 1, 1) := by decide +kernel
theorem d_MO_ends_13 : decode b_MO_ends 13 = .ok (.iaload, 1) := by decide +kernel
theorem d_MO_ends_14 : decode b_MO_ends 14 = .ok (.goto 4, 3) := by decide +kernel
theorem d_MO_ends_17 : decode b_MO_ends 17 = .ok (.iconst (-1), 1) := by decide +kernel
theorem d_MO_ends_18 : decode b_MO_ends 18 = .ok (.ireturn, 1) := by decide +kernel
abbrev b_MO_mark : ByteArray := prog_12_method_38_code
abbrev y_MO_mark : MethodName := ⟨R_MO, "mark", "(II)I"⟩
abbrev w_MO_mark : List Cond := (.code ⟨"TextTermsModel", "mark", "(II)I"⟩ prog_12_method_38_code 3 (Option.some Jvm.ClassFile.FieldType.int)) :: tt_T
theorem hv_MO_mark : y_MO_mark.cls = R_MO ∧ y_MO_mark.cls ≠ "java/lang/invoke/MethodHandle" ∧ y_MO_mark.cls ≠ "java/lang/invoke/VarHandle" ∧ (parseMethodDescriptor y_MO_mark.desc).map (fun d => d.parameters.length) = some 2 := by decide +kernel
theorem d_MO_mark_0 : decode b_MO_mark 0 = .ok (.aload_n 0, 1) := by decide +kernel
theorem d_MO_mark_1 : decode b_MO_mark 1 = .ok (.iload_n 1, 1) := by decide +kernel
theorem d_MO_mark_2 : decode b_MO_mark 2 = .ok (.invokevirtual 132, 3) := by decide +kernel
theorem d_MO_mark_5 : decode b_MO_mark 5 = .ok (.ifCond .eq 49, 3) := by decide +kernel
theorem d_MO_mark_8 : decode b_MO_mark 8 = .ok (.aload_n 0, 1) := by decide +kernel
theorem d_MO_mark_9 : decode b_MO_mark 9 = .ok (.getfield 29, 3) := by decide +kernel
theorem d_MO_mark_12 : decode b_MO_mark 12 = .ok (.iload_n 1, 1) := by decide +kernel
theorem d_MO_mark_13 : decode b_MO_mark 13 = .ok (.iaload, 1) := by decide +kernel
theorem d_MO_mark_14 : decode b_MO_mark 14 = .ok (.ifCond .lt 40, 3) := by decide +kernel
theorem d_MO_mark_17 : decode b_MO_mark 17 = .ok (.iload_n 2, 1) := by decide +kernel
theorem d_MO_mark_18 : decode b_MO_mark 18 = .ok (.ifCond .lt 36, 3) := by decide +kernel
theorem d_MO_mark_21 : decode b_MO_mark 21 = .ok (.iload_n 2, 1) := by decide +kernel
theorem d_MO_mark_22 : decode b_MO_mark 22 = .ok (.aload_n 0, 1) := by decide +kernel
theorem d_MO_mark_23 : decode b_MO_mark 23 = .ok (.getfield 32, 3) := by decide +kernel
theorem d_MO_mark_26 : decode b_MO_mark 26 = .ok (.iload_n 1, 1) := by decide +kernel
theorem d_MO_mark_27 : decode b_MO_mark 27 = .ok (.iaload, 1) := by decide +kernel
theorem d_MO_mark_28 : decode b_MO_mark 28 = .ok (.aload_n 0, 1) := by decide +kernel
theorem d_MO_mark_29 : decode b_MO_mark 29 = .ok (.getfield 29, 3) := by decide +kernel
theorem d_MO_mark_32 : decode b_MO_mark 32 = .ok (.iload_n 1, 1) := by decide +kernel
theorem d_MO_mark_33 : decode b_MO_mark 33 = .ok (.iaload, 1) := by decide +kernel
theorem d_MO_mark_34 : decode b_MO_mark 34 = .ok (.isub, 1) := by decide +kernel
theorem d_MO_mark_35 : decode b_MO_mark 35 = .ok (.if_icmp .ge 19, 3) := by decide +kernel
theorem d_MO_mark_38 : decode b_MO_mark 38 = .ok (.aload_n 0, 1) := by decide +kernel
theorem d_MO_mark_39 : decode b_MO_mark 39 = .ok (.getfield 13, 3) := by decide +kernel
theorem d_MO_mark_42 : decode b_MO_mark 42 = .ok (.aload_n 0, 1) := by decide +kernel
theorem d_MO_mark_43 : decode b_MO_mark 43 = .ok (.getfield 29, 3) := by decide +kernel
theorem d_MO_mark_46 : decode b_MO_mark 46 = .ok (.iload_n 1, 1) := by decide +kernel
theorem d_MO_mark_47 : decode b_MO_mark 47 = .ok (.iaload, 1) := by decide +kernel
theorem d_MO_mark_48 : decode b_MO_mark 48 = .ok (.iload_n 2, 1) := by decide +kernel
theorem d_MO_mark_49 : decode b_MO_mark 49 = .ok (.iadd, 1) := by decide +kernel
theorem d_MO_mark_50 : decode b_MO_mark 50 = .ok (.baload, 1) := by decide +kernel
theorem d_MO_mark_51 : decode b_MO_mark 51 = .ok (.goto 4, 3) := by decide +kernel
theorem d_MO_mark_54 : decode b_MO_mark 54 = .ok (.iconst (-1), 1) := by decide +kernel
theorem d_MO_mark_55 : decode b_MO_mark 55 = .ok (.ireturn, 1) := by decide +kernel
abbrev b_MO_characterAt : ByteArray := prog_12_method_39_code
abbrev y_MO_characterAt : MethodName := ⟨R_MO, "characterAt", "(II)I"⟩
abbrev w_MO_characterAt : List Cond := (.code ⟨"TextTermsModel", "characterAt", "(II)I"⟩ prog_12_method_39_code 5 (Option.some Jvm.ClassFile.FieldType.int)) :: tt_T
theorem hv_MO_characterAt : y_MO_characterAt.cls = R_MO ∧ y_MO_characterAt.cls ≠ "java/lang/invoke/MethodHandle" ∧ y_MO_characterAt.cls ≠ "java/lang/invoke/VarHandle" ∧ (parseMethodDescriptor y_MO_characterAt.desc).map (fun d => d.parameters.length) = some 2 := by decide +kernel
theorem d_MO_characterAt_0 : decode b_MO_characterAt 0 = .ok (.aload_n 0, 1) := by decide +kernel
theorem d_MO_characterAt_1 : decode b_MO_characterAt 1 = .ok (.getfield 23, 3) := by decide +kernel
theorem d_MO_characterAt_4 : decode b_MO_characterAt 4 = .ok (.iload_n 1, 1) := by decide +kernel
theorem d_MO_characterAt_5 : decode b_MO_characterAt 5 = .ok (.iaload, 1) := by decide +kernel
theorem d_MO_characterAt_6 : decode b_MO_characterAt 6 = .ok (.iconst 1, 1) := by decide +kernel
theorem d_MO_characterAt_7 : decode b_MO_characterAt 7 = .ok (.iadd, 1) := by decide +kernel
theorem d_MO_characterAt_8 : decode b_MO_characterAt 8 = .ok (.istore_n 3, 1) := by decide +kernel
theorem d_MO_characterAt_9 : decode b_MO_characterAt 9 = .ok (.iconst 0, 1) := by decide +kernel
theorem d_MO_characterAt_10 : decode b_MO_characterAt 10 = .ok (.istore 4, 2) := by decide +kernel
theorem d_MO_characterAt_12 : decode b_MO_characterAt 12 = .ok (.iload 4, 2) := by decide +kernel
theorem d_MO_characterAt_14 : decode b_MO_characterAt 14 = .ok (.iload_n 2, 1) := by decide +kernel
theorem d_MO_characterAt_15 : decode b_MO_characterAt 15 = .ok (.if_icmp .ge 42, 3) := by decide +kernel
theorem d_MO_characterAt_18 : decode b_MO_characterAt 18 = .ok (.iload_n 3, 1) := by decide +kernel
theorem d_MO_characterAt_19 : decode b_MO_characterAt 19 = .ok (.aload_n 0, 1) := by decide +kernel
theorem d_MO_characterAt_20 : decode b_MO_characterAt 20 = .ok (.getfield 26, 3) := by decide +kernel
theorem d_MO_characterAt_23 : decode b_MO_characterAt 23 = .ok (.iload_n 1, 1) := by decide +kernel
theorem d_MO_characterAt_24 : decode b_MO_characterAt 24 = .ok (.iaload, 1) := by decide +kernel
theorem d_MO_characterAt_25 : decode b_MO_characterAt 25 = .ok (.iconst 1, 1) := by decide +kernel
theorem d_MO_characterAt_26 : decode b_MO_characterAt 26 = .ok (.isub, 1) := by decide +kernel
theorem d_MO_characterAt_27 : decode b_MO_characterAt 27 = .ok (.if_icmp .ge 30, 3) := by decide +kernel
theorem d_MO_characterAt_30 : decode b_MO_characterAt 30 = .ok (.aload_n 0, 1) := by decide +kernel
theorem d_MO_characterAt_31 : decode b_MO_characterAt 31 = .ok (.getfield 13, 3) := by decide +kernel
theorem d_MO_characterAt_34 : decode b_MO_characterAt 34 = .ok (.iload_n 3, 1) := by decide +kernel
theorem d_MO_characterAt_35 : decode b_MO_characterAt 35 = .ok (.baload, 1) := by decide +kernel
theorem d_MO_characterAt_36 : decode b_MO_characterAt 36 = .ok (.bipush 92, 2) := by decide +kernel
theorem d_MO_characterAt_38 : decode b_MO_characterAt 38 = .ok (.if_icmp .ne 9, 3) := by decide +kernel
theorem d_MO_characterAt_41 : decode b_MO_characterAt 41 = .ok (.iload_n 3, 1) := by decide +kernel
theorem d_MO_characterAt_42 : decode b_MO_characterAt 42 = .ok (.iconst 2, 1) := by decide +kernel
theorem d_MO_characterAt_43 : decode b_MO_characterAt 43 = .ok (.iadd, 1) := by decide +kernel
theorem d_MO_characterAt_44 : decode b_MO_characterAt 44 = .ok (.goto 6, 3) := by decide +kernel
theorem d_MO_characterAt_47 : decode b_MO_characterAt 47 = .ok (.iload_n 3, 1) := by decide +kernel
theorem d_MO_characterAt_48 : decode b_MO_characterAt 48 = .ok (.iconst 1, 1) := by decide +kernel
theorem d_MO_characterAt_49 : decode b_MO_characterAt 49 = .ok (.iadd, 1) := by decide +kernel
theorem d_MO_characterAt_50 : decode b_MO_characterAt 50 = .ok (.istore_n 3, 1) := by decide +kernel
theorem d_MO_characterAt_51 : decode b_MO_characterAt 51 = .ok (.iinc 4 1, 3) := by decide +kernel
theorem d_MO_characterAt_54 : decode b_MO_characterAt 54 = .ok (.goto (-42), 3) := by decide +kernel
theorem d_MO_characterAt_57 : decode b_MO_characterAt 57 = .ok (.iload_n 3, 1) := by decide +kernel
theorem d_MO_characterAt_58 : decode b_MO_characterAt 58 = .ok (.ireturn, 1) := by decide +kernel
abbrev b_MO_characters : ByteArray := prog_12_method_40_code
abbrev y_MO_characters : MethodName := ⟨R_MO, "characters", "(I)I"⟩
abbrev w_MO_characters : List Cond := (.code ⟨"TextTermsModel", "characters", "(I)I"⟩ prog_12_method_40_code 4 (Option.some Jvm.ClassFile.FieldType.int)) :: tt_T
theorem hv_MO_characters : y_MO_characters.cls = R_MO ∧ y_MO_characters.cls ≠ "java/lang/invoke/MethodHandle" ∧ y_MO_characters.cls ≠ "java/lang/invoke/VarHandle" ∧ (parseMethodDescriptor y_MO_characters.desc).map (fun d => d.parameters.length) = some 1 := by decide +kernel
theorem d_MO_characters_0 : decode b_MO_characters 0 = .ok (.iconst 0, 1) := by decide +kernel
theorem d_MO_characters_1 : decode b_MO_characters 1 = .ok (.istore_n 2, 1) := by decide +kernel
theorem d_MO_characters_2 : decode b_MO_characters 2 = .ok (.aload_n 0, 1) := by decide +kernel
theorem d_MO_characters_3 : decode b_MO_characters 3 = .ok (.getfield 23, 3) := by decide +kernel
theorem d_MO_characters_6 : decode b_MO_characters 6 = .ok (.iload_n 1, 1) := by decide +kernel
theorem d_MO_characters_7 : decode b_MO_characters 7 = .ok (.iaload, 1) := by decide +kernel
theorem d_MO_characters_8 : decode b_MO_characters 8 = .ok (.iconst 1, 1) := by decide +kernel
theorem d_MO_characters_9 : decode b_MO_characters 9 = .ok (.iadd, 1) := by decide +kernel
theorem d_MO_characters_10 : decode b_MO_characters 10 = .ok (.istore_n 3, 1) := by decide +kernel
theorem d_MO_characters_11 : decode b_MO_characters 11 = .ok (.iload_n 3, 1) := by decide +kernel
theorem d_MO_characters_12 : decode b_MO_characters 12 = .ok (.aload_n 0, 1) := by decide +kernel
theorem d_MO_characters_13 : decode b_MO_characters 13 = .ok (.getfield 26, 3) := by decide +kernel
theorem d_MO_characters_16 : decode b_MO_characters 16 = .ok (.iload_n 1, 1) := by decide +kernel
theorem d_MO_characters_17 : decode b_MO_characters 17 = .ok (.iaload, 1) := by decide +kernel
theorem d_MO_characters_18 : decode b_MO_characters 18 = .ok (.iconst 1, 1) := by decide +kernel
theorem d_MO_characters_19 : decode b_MO_characters 19 = .ok (.isub, 1) := by decide +kernel
theorem d_MO_characters_20 : decode b_MO_characters 20 = .ok (.if_icmp .ge 30, 3) := by decide +kernel
theorem d_MO_characters_23 : decode b_MO_characters 23 = .ok (.aload_n 0, 1) := by decide +kernel
theorem d_MO_characters_24 : decode b_MO_characters 24 = .ok (.getfield 13, 3) := by decide +kernel
theorem d_MO_characters_27 : decode b_MO_characters 27 = .ok (.iload_n 3, 1) := by decide +kernel
theorem d_MO_characters_28 : decode b_MO_characters 28 = .ok (.baload, 1) := by decide +kernel
theorem d_MO_characters_29 : decode b_MO_characters 29 = .ok (.bipush 92, 2) := by decide +kernel
theorem d_MO_characters_31 : decode b_MO_characters 31 = .ok (.if_icmp .ne 9, 3) := by decide +kernel
theorem d_MO_characters_34 : decode b_MO_characters 34 = .ok (.iload_n 3, 1) := by decide +kernel
theorem d_MO_characters_35 : decode b_MO_characters 35 = .ok (.iconst 2, 1) := by decide +kernel
theorem d_MO_characters_36 : decode b_MO_characters 36 = .ok (.iadd, 1) := by decide +kernel
theorem d_MO_characters_37 : decode b_MO_characters 37 = .ok (.goto 6, 3) := by decide +kernel
theorem d_MO_characters_40 : decode b_MO_characters 40 = .ok (.iload_n 3, 1) := by decide +kernel
theorem d_MO_characters_41 : decode b_MO_characters 41 = .ok (.iconst 1, 1) := by decide +kernel
theorem d_MO_characters_42 : decode b_MO_characters 42 = .ok (.iadd, 1) := by decide +kernel
theorem d_MO_characters_43 : decode b_MO_characters 43 = .ok (.istore_n 3, 1) := by decide +kernel
theorem d_MO_characters_44 : decode b_MO_characters 44 = .ok (.iinc 2 1, 3) := by decide +kernel
theorem d_MO_characters_47 : decode b_MO_characters 47 = .ok (.goto (-36), 3) := by decide +kernel
theorem d_MO_characters_50 : decode b_MO_characters 50 = .ok (.iload_n 2, 1) := by decide +kernel
theorem d_MO_characters_51 : decode b_MO_characters 51 = .ok (.ireturn, 1) := by decide +kernel
abbrev b_MO_length : ByteArray := prog_12_method_41_code
abbrev y_MO_length : MethodName := ⟨R_MO, "length", "(I)I"⟩
abbrev w_MO_length : List Cond := (.code ⟨"TextTermsModel", "length", "(I)I"⟩ prog_12_method_41_code 2 (Option.some Jvm.ClassFile.FieldType.int)) :: tt_T
theorem hv_MO_length : y_MO_length.cls = R_MO ∧ y_MO_length.cls ≠ "java/lang/invoke/MethodHandle" ∧ y_MO_length.cls ≠ "java/lang/invoke/VarHandle" ∧ (parseMethodDescriptor y_MO_length.desc).map (fun d => d.parameters.length) = some 1 := by decide +kernel
theorem d_MO_length_0 : decode b_MO_length 0 = .ok (.aload_n 0, 1) := by decide +kernel
theorem d_MO_length_1 : decode b_MO_length 1 = .ok (.iload_n 1, 1) := by decide +kernel
theorem d_MO_length_2 : decode b_MO_length 2 = .ok (.invokevirtual 132, 3) := by decide +kernel
theorem d_MO_length_5 : decode b_MO_length 5 = .ok (.ifCond .ne 5, 3) := by decide +kernel
theorem d_MO_length_8 : decode b_MO_length 8 = .ok (.iconst (-1), 1) := by decide +kernel
theorem d_MO_length_9 : decode b_MO_length 9 = .ok (.ireturn, 1) := by decide +kernel
theorem d_MO_length_10 : decode b_MO_length 10 = .ok (.aload_n 0, 1) := by decide +kernel
theorem d_MO_length_11 : decode b_MO_length 11 = .ok (.getfield 16, 3) := by decide +kernel
theorem d_MO_length_14 : decode b_MO_length 14 = .ok (.iload_n 1, 1) := by decide +kernel
theorem d_MO_length_15 : decode b_MO_length 15 = .ok (.baload, 1) := by decide +kernel
theorem d_MO_length_16 : decode b_MO_length 16 = .ok (.tableswitch 102 0 4 #[36, 64, 70, 102, 88], 36) := by decide +kernel
theorem d_MO_length_52 : decode b_MO_length 52 = .ok (.aload_n 0, 1) := by decide +kernel
theorem d_MO_length_53 : decode b_MO_length 53 = .ok (.aload_n 0, 1) := by decide +kernel
theorem d_MO_length_54 : decode b_MO_length 54 = .ok (.getfield 23, 3) := by decide +kernel
theorem d_MO_length_57 : decode b_MO_length 57 = .ok (.iload_n 1, 1) := by decide +kernel
theorem d_MO_length_58 : decode b_MO_length 58 = .ok (.iaload, 1) := by decide +kernel
theorem d_MO_length_59 : decode b_MO_length 59 = .ok (.aload_n 0, 1) := by decide +kernel
theorem d_MO_length_60 : decode b_MO_length 60 = .ok (.getfield 26, 3) := by decide +kernel
theorem d_MO_length_63 : decode b_MO_length 63 = .ok (.iload_n 1, 1) := by decide +kernel
theorem d_MO_length_64 : decode b_MO_length 64 = .ok (.iaload, 1) := by decide +kernel
theorem d_MO_length_65 : decode b_MO_length 65 = .ok (.invokevirtual 102, 3) := by decide +kernel
theorem d_MO_length_68 : decode b_MO_length 68 = .ok (.ifCond .eq 10, 3) := by decide +kernel
theorem d_MO_length_71 : decode b_MO_length 71 = .ok (.aload_n 0, 1) := by decide +kernel
theorem d_MO_length_72 : decode b_MO_length 72 = .ok (.invokevirtual 92, 3) := by decide +kernel
theorem d_MO_length_75 : decode b_MO_length 75 = .ok (.goto 4, 3) := by decide +kernel
theorem d_MO_length_78 : decode b_MO_length 78 = .ok (.iconst (-1), 1) := by decide +kernel
theorem d_MO_length_79 : decode b_MO_length 79 = .ok (.ireturn, 1) := by decide +kernel
theorem d_MO_length_80 : decode b_MO_length 80 = .ok (.aload_n 0, 1) := by decide +kernel
theorem d_MO_length_81 : decode b_MO_length 81 = .ok (.iload_n 1, 1) := by decide +kernel
theorem d_MO_length_82 : decode b_MO_length 82 = .ok (.invokevirtual 152, 3) := by decide +kernel
theorem d_MO_length_85 : decode b_MO_length 85 = .ok (.ireturn, 1) := by decide +kernel
theorem d_MO_length_86 : decode b_MO_length 86 = .ok (.aload_n 0, 1) := by decide +kernel
theorem d_MO_length_87 : decode b_MO_length 87 = .ok (.getfield 26, 3) := by decide +kernel
theorem d_MO_length_90 : decode b_MO_length 90 = .ok (.iload_n 1, 1) := by decide +kernel
theorem d_MO_length_91 : decode b_MO_length 91 = .ok (.iaload, 1) := by decide +kernel
theorem d_MO_length_92 : decode b_MO_length 92 = .ok (.aload_n 0, 1) := by decide +kernel
theorem d_MO_length_93 : decode b_MO_length 93 = .ok (.getfield 23, 3) := by decide +kernel
theorem d_MO_length_96 : decode b_MO_length 96 = .ok (.iload_n 1, 1) := by decide +kernel
theorem d_MO_length_97 : decode b_MO_length 97 = .ok (.iaload, 1) := by decide +kernel
theorem d_MO_length_98 : decode b_MO_length 98 = .ok (.isub, 1) := by decide +kernel
theorem d_MO_length_99 : decode b_MO_length 99 = .ok (.iconst 2, 1) := by decide +kernel
theorem d_MO_length_100 : decode b_MO_length 100 = .ok (.isub, 1) := by decide +kernel
theorem d_MO_length_101 : decode b_MO_length 101 = .ok (.iconst 2, 1) := by decide +kernel
theorem d_MO_length_102 : decode b_MO_length 102 = .ok (.idiv, 1) := by decide +kernel
theorem d_MO_length_103 : decode b_MO_length 103 = .ok (.ireturn, 1) := by decide +kernel
theorem d_MO_length_104 : decode b_MO_length 104 = .ok (.aload_n 0, 1) := by decide +kernel
theorem d_MO_length_105 : decode b_MO_length 105 = .ok (.getfield 26, 3) := by decide +kernel
theorem d_MO_length_108 : decode b_MO_length 108 = .ok (.iload_n 1, 1) := by decide +kernel
theorem d_MO_length_109 : decode b_MO_length 109 = .ok (.iaload, 1) := by decide +kernel
theorem d_MO_length_110 : decode b_MO_length 110 = .ok (.aload_n 0, 1) := by decide +kernel
theorem d_MO_length_111 : decode b_MO_length 111 = .ok (.getfield 23, 3) := by decide +kernel
theorem d_MO_length_114 : decode b_MO_length 114 = .ok (.iload_n 1, 1) := by decide +kernel
theorem d_MO_length_115 : decode b_MO_length 115 = .ok (.iaload, 1) := by decide +kernel
theorem d_MO_length_116 : decode b_MO_length 116 = .ok (.isub, 1) := by decide +kernel
theorem d_MO_length_117 : decode b_MO_length 117 = .ok (.ireturn, 1) := by decide +kernel
theorem d_MO_length_118 : decode b_MO_length 118 = .ok (.iconst (-1), 1) := by decide +kernel
theorem d_MO_length_119 : decode b_MO_length 119 = .ok (.ireturn, 1) := by decide +kernel
abbrev b_MO_part : ByteArray := prog_12_method_42_code
abbrev y_MO_part : MethodName := ⟨R_MO, "part", "(II)I"⟩
abbrev w_MO_part : List Cond := (.code ⟨"TextTermsModel", "part", "(II)I"⟩ prog_12_method_42_code 5 (Option.some Jvm.ClassFile.FieldType.int)) :: tt_T
theorem hv_MO_part : y_MO_part.cls = R_MO ∧ y_MO_part.cls ≠ "java/lang/invoke/MethodHandle" ∧ y_MO_part.cls ≠ "java/lang/invoke/VarHandle" ∧ (parseMethodDescriptor y_MO_part.desc).map (fun d => d.parameters.length) = some 2 := by decide +kernel
theorem d_MO_part_0 : decode b_MO_part 0 = .ok (.aload_n 0, 1) := by decide +kernel
theorem d_MO_part_1 : decode b_MO_part 1 = .ok (.iload_n 1, 1) := by decide +kernel
theorem d_MO_part_2 : decode b_MO_part 2 = .ok (.invokevirtual 132, 3) := by decide +kernel
theorem d_MO_part_5 : decode b_MO_part 5 = .ok (.ifCond .eq 26, 3) := by decide +kernel
theorem d_MO_part_8 : decode b_MO_part 8 = .ok (.aload_n 0, 1) := by decide +kernel
theorem d_MO_part_9 : decode b_MO_part 9 = .ok (.getfield 16, 3) := by decide +kernel
theorem d_MO_part_12 : decode b_MO_part 12 = .ok (.iload_n 1, 1) := by decide +kernel
theorem d_MO_part_13 : decode b_MO_part 13 = .ok (.baload, 1) := by decide +kernel
theorem d_MO_part_14 : decode b_MO_part 14 = .ok (.iconst 3, 1) := by decide +kernel
theorem d_MO_part_15 : decode b_MO_part 15 = .ok (.if_icmp .eq 16, 3) := by decide +kernel
theorem d_MO_part_18 : decode b_MO_part 18 = .ok (.iload_n 2, 1) := by decide +kernel
theorem d_MO_part_19 : decode b_MO_part 19 = .ok (.ifCond .lt 12, 3) := by decide +kernel
theorem d_MO_part_22 : decode b_MO_part 22 = .ok (.iload_n 2, 1) := by decide +kernel
theorem d_MO_part_23 : decode b_MO_part 23 = .ok (.aload_n 0, 1) := by decide +kernel
theorem d_MO_part_24 : decode b_MO_part 24 = .ok (.iload_n 1, 1) := by decide +kernel
theorem d_MO_part_25 : decode b_MO_part 25 = .ok (.invokevirtual 155, 3) := by decide +kernel
theorem d_MO_part_28 : decode b_MO_part 28 = .ok (.if_icmp .lt 5, 3) := by decide +kernel
theorem d_MO_part_31 : decode b_MO_part 31 = .ok (.iconst (-1), 1) := by decide +kernel
theorem d_MO_part_32 : decode b_MO_part 32 = .ok (.ireturn, 1) := by decide +kernel
theorem d_MO_part_33 : decode b_MO_part 33 = .ok (.aload_n 0, 1) := by decide +kernel
theorem d_MO_part_34 : decode b_MO_part 34 = .ok (.getfield 16, 3) := by decide +kernel
theorem d_MO_part_37 : decode b_MO_part 37 = .ok (.iload_n 1, 1) := by decide +kernel
theorem d_MO_part_38 : decode b_MO_part 38 = .ok (.baload, 1) := by decide +kernel
theorem d_MO_part_39 : decode b_MO_part 39 = .ok (.tableswitch 137 0 2 #[25, 42, 96], 25) := by decide +kernel
theorem d_MO_part_64 : decode b_MO_part 64 = .ok (.aload_n 0, 1) := by decide +kernel
theorem d_MO_part_65 : decode b_MO_part 65 = .ok (.getfield 35, 3) := by decide +kernel
theorem d_MO_part_68 : decode b_MO_part 68 = .ok (.iload_n 2, 1) := by decide +kernel
theorem d_MO_part_69 : decode b_MO_part 69 = .ok (.bipush 16, 2) := by decide +kernel
theorem d_MO_part_71 : decode b_MO_part 71 = .ok (.idiv, 1) := by decide +kernel
theorem d_MO_part_72 : decode b_MO_part 72 = .ok (.iaload, 1) := by decide +kernel
theorem d_MO_part_73 : decode b_MO_part 73 = .ok (.iload_n 2, 1) := by decide +kernel
theorem d_MO_part_74 : decode b_MO_part 74 = .ok (.bipush 16, 2) := by decide +kernel
theorem d_MO_part_76 : decode b_MO_part 76 = .ok (.irem, 1) := by decide +kernel
theorem d_MO_part_77 : decode b_MO_part 77 = .ok (.ishr, 1) := by decide +kernel
theorem d_MO_part_78 : decode b_MO_part 78 = .ok (.iconst 1, 1) := by decide +kernel
theorem d_MO_part_79 : decode b_MO_part 79 = .ok (.iand, 1) := by decide +kernel
theorem d_MO_part_80 : decode b_MO_part 80 = .ok (.ireturn, 1) := by decide +kernel
theorem d_MO_part_81 : decode b_MO_part 81 = .ok (.aload_n 0, 1) := by decide +kernel
theorem d_MO_part_82 : decode b_MO_part 82 = .ok (.iload_n 1, 1) := by decide +kernel
theorem d_MO_part_83 : decode b_MO_part 83 = .ok (.iload_n 2, 1) := by decide +kernel
theorem d_MO_part_84 : decode b_MO_part 84 = .ok (.invokevirtual 157, 3) := by decide +kernel
theorem d_MO_part_87 : decode b_MO_part 87 = .ok (.istore_n 3, 1) := by decide +kernel
theorem d_MO_part_88 : decode b_MO_part 88 = .ok (.aload_n 0, 1) := by decide +kernel
theorem d_MO_part_89 : decode b_MO_part 89 = .ok (.getfield 13, 3) := by decide +kernel
theorem d_MO_part_92 : decode b_MO_part 92 = .ok (.iload_n 3, 1) := by decide +kernel
theorem d_MO_part_93 : decode b_MO_part 93 = .ok (.baload, 1) := by decide +kernel
theorem d_MO_part_94 : decode b_MO_part 94 = .ok (.bipush 92, 2) := by decide +kernel
theorem d_MO_part_96 : decode b_MO_part 96 = .ok (.if_icmp .eq 12, 3) := by decide +kernel
theorem d_MO_part_99 : decode b_MO_part 99 = .ok (.aload_n 0, 1) := by decide +kernel
theorem d_MO_part_100 : decode b_MO_part 100 = .ok (.getfield 13, 3) := by decide +kernel
theorem d_MO_part_103 : decode b_MO_part 103 = .ok (.iload_n 3, 1) := by decide +kernel
theorem d_MO_part_104 : decode b_MO_part 104 = .ok (.baload, 1) := by decide +kernel
theorem d_MO_part_105 : decode b_MO_part 105 = .ok (.goto 29, 3) := by decide +kernel
theorem d_MO_part_108 : decode b_MO_part 108 = .ok (.aload_n 0, 1) := by decide +kernel
theorem d_MO_part_109 : decode b_MO_part 109 = .ok (.getfield 13, 3) := by decide +kernel
theorem d_MO_part_112 : decode b_MO_part 112 = .ok (.iload_n 3, 1) := by decide +kernel
theorem d_MO_part_113 : decode b_MO_part 113 = .ok (.iconst 1, 1) := by decide +kernel
theorem d_MO_part_114 : decode b_MO_part 114 = .ok (.iadd, 1) := by decide +kernel
theorem d_MO_part_115 : decode b_MO_part 115 = .ok (.baload, 1) := by decide +kernel
theorem d_MO_part_116 : decode b_MO_part 116 = .ok (.bipush 110, 2) := by decide +kernel
theorem d_MO_part_118 : decode b_MO_part 118 = .ok (.if_icmp .ne 8, 3) := by decide +kernel
theorem d_MO_part_121 : decode b_MO_part 121 = .ok (.bipush 10, 2) := by decide +kernel
theorem d_MO_part_123 : decode b_MO_part 123 = .ok (.goto 11, 3) := by decide +kernel
theorem d_MO_part_126 : decode b_MO_part 126 = .ok (.aload_n 0, 1) := by decide +kernel
theorem d_MO_part_127 : decode b_MO_part 127 = .ok (.getfield 13, 3) := by decide +kernel
theorem d_MO_part_130 : decode b_MO_part 130 = .ok (.iload_n 3, 1) := by decide +kernel
theorem d_MO_part_131 : decode b_MO_part 131 = .ok (.iconst 1, 1) := by decide +kernel
theorem d_MO_part_132 : decode b_MO_part 132 = .ok (.iadd, 1) := by decide +kernel
theorem d_MO_part_133 : decode b_MO_part 133 = .ok (.baload, 1) := by decide +kernel
theorem d_MO_part_134 : decode b_MO_part 134 = .ok (.ireturn, 1) := by decide +kernel
theorem d_MO_part_135 : decode b_MO_part 135 = .ok (.aload_n 0, 1) := by decide +kernel
theorem d_MO_part_136 : decode b_MO_part 136 = .ok (.getfield 23, 3) := by decide +kernel
theorem d_MO_part_139 : decode b_MO_part 139 = .ok (.iload_n 1, 1) := by decide +kernel
theorem d_MO_part_140 : decode b_MO_part 140 = .ok (.iaload, 1) := by decide +kernel
theorem d_MO_part_141 : decode b_MO_part 141 = .ok (.iconst 2, 1) := by decide +kernel
theorem d_MO_part_142 : decode b_MO_part 142 = .ok (.iadd, 1) := by decide +kernel
theorem d_MO_part_143 : decode b_MO_part 143 = .ok (.iconst 2, 1) := by decide +kernel
theorem d_MO_part_144 : decode b_MO_part 144 = .ok (.iload_n 2, 1) := by decide +kernel
theorem d_MO_part_145 : decode b_MO_part 145 = .ok (.imul, 1) := by decide +kernel
theorem d_MO_part_146 : decode b_MO_part 146 = .ok (.iadd, 1) := by decide +kernel
theorem d_MO_part_147 : decode b_MO_part 147 = .ok (.istore 4, 2) := by decide +kernel
theorem d_MO_part_149 : decode b_MO_part 149 = .ok (.bipush 16, 2) := by decide +kernel
theorem d_MO_part_151 : decode b_MO_part 151 = .ok (.aload_n 0, 1) := by decide +kernel
theorem d_MO_part_152 : decode b_MO_part 152 = .ok (.getfield 13, 3) := by decide +kernel
theorem d_MO_part_155 : decode b_MO_part 155 = .ok (.iload 4, 2) := by decide +kernel
theorem d_MO_part_157 : decode b_MO_part 157 = .ok (.baload, 1) := by decide +kernel
theorem d_MO_part_158 : decode b_MO_part 158 = .ok (.invokestatic 85, 3) := by decide +kernel
theorem d_MO_part_161 : decode b_MO_part 161 = .ok (.imul, 1) := by decide +kernel
theorem d_MO_part_162 : decode b_MO_part 162 = .ok (.aload_n 0, 1) := by decide +kernel
theorem d_MO_part_163 : decode b_MO_part 163 = .ok (.getfield 13, 3) := by decide +kernel
theorem d_MO_part_166 : decode b_MO_part 166 = .ok (.iload 4, 2) := by decide +kernel
theorem d_MO_part_168 : decode b_MO_part 168 = .ok (.iconst 1, 1) := by decide +kernel
theorem d_MO_part_169 : decode b_MO_part 169 = .ok (.iadd, 1) := by decide +kernel
theorem d_MO_part_170 : decode b_MO_part 170 = .ok (.baload, 1) := by decide +kernel
theorem d_MO_part_171 : decode b_MO_part 171 = .ok (.invokestatic 85, 3) := by decide +kernel
theorem d_MO_part_174 : decode b_MO_part 174 = .ok (.iadd, 1) := by decide +kernel
theorem d_MO_part_175 : decode b_MO_part 175 = .ok (.ireturn, 1) := by decide +kernel
theorem d_MO_part_176 : decode b_MO_part 176 = .ok (.aload_n 0, 1) := by decide +kernel
theorem d_MO_part_177 : decode b_MO_part 177 = .ok (.getfield 13, 3) := by decide +kernel
theorem d_MO_part_180 : decode b_MO_part 180 = .ok (.aload_n 0, 1) := by decide +kernel
theorem d_MO_part_181 : decode b_MO_part 181 = .ok (.getfield 23, 3) := by decide +kernel
theorem d_MO_part_184 : decode b_MO_part 184 = .ok (.iload_n 1, 1) := by decide +kernel
theorem d_MO_part_185 : decode b_MO_part 185 = .ok (.iaload, 1) := by decide +kernel
theorem d_MO_part_186 : decode b_MO_part 186 = .ok (.iload_n 2, 1) := by decide +kernel
theorem d_MO_part_187 : decode b_MO_part 187 = .ok (.iadd, 1) := by decide +kernel
theorem d_MO_part_188 : decode b_MO_part 188 = .ok (.baload, 1) := by decide +kernel
theorem d_MO_part_189 : decode b_MO_part 189 = .ok (.ireturn, 1) := by decide +kernel
abbrev b_MO_isNegative : ByteArray := prog_12_method_43_code
abbrev y_MO_isNegative : MethodName := ⟨R_MO, "isNegative", "(I)Z"⟩
abbrev w_MO_isNegative : List Cond := (.code ⟨"TextTermsModel", "isNegative", "(I)Z"⟩ prog_12_method_43_code 2 (Option.some Jvm.ClassFile.FieldType.boolean)) :: tt_T
theorem hv_MO_isNegative : y_MO_isNegative.cls = R_MO ∧ y_MO_isNegative.cls ≠ "java/lang/invoke/MethodHandle" ∧ y_MO_isNegative.cls ≠ "java/lang/invoke/VarHandle" ∧ (parseMethodDescriptor y_MO_isNegative.desc).map (fun d => d.parameters.length) = some 1 := by decide +kernel
theorem d_MO_isNegative_0 : decode b_MO_isNegative 0 = .ok (.aload_n 0, 1) := by decide +kernel
theorem d_MO_isNegative_1 : decode b_MO_isNegative 1 = .ok (.iload_n 1, 1) := by decide +kernel
theorem d_MO_isNegative_2 : decode b_MO_isNegative 2 = .ok (.iconst 0, 1) := by decide +kernel
theorem d_MO_isNegative_3 : decode b_MO_isNegative 3 = .ok (.invokevirtual 135, 3) := by decide +kernel
theorem d_MO_isNegative_6 : decode b_MO_isNegative 6 = .ok (.ifCond .eq 49, 3) := by decide +kernel
theorem d_MO_isNegative_9 : decode b_MO_isNegative 9 = .ok (.aload_n 0, 1) := by decide +kernel
theorem d_MO_isNegative_10 : decode b_MO_isNegative 10 = .ok (.getfield 13, 3) := by decide +kernel
theorem d_MO_isNegative_13 : decode b_MO_isNegative 13 = .ok (.aload_n 0, 1) := by decide +kernel
theorem d_MO_isNegative_14 : decode b_MO_isNegative 14 = .ok (.getfield 23, 3) := by decide +kernel
theorem d_MO_isNegative_17 : decode b_MO_isNegative 17 = .ok (.iload_n 1, 1) := by decide +kernel
theorem d_MO_isNegative_18 : decode b_MO_isNegative 18 = .ok (.iaload, 1) := by decide +kernel
theorem d_MO_isNegative_19 : decode b_MO_isNegative 19 = .ok (.baload, 1) := by decide +kernel
theorem d_MO_isNegative_20 : decode b_MO_isNegative 20 = .ok (.bipush 45, 2) := by decide +kernel
theorem d_MO_isNegative_22 : decode b_MO_isNegative 22 = .ok (.if_icmp .ne 33, 3) := by decide +kernel
theorem d_MO_isNegative_25 : decode b_MO_isNegative 25 = .ok (.aload_n 0, 1) := by decide +kernel
theorem d_MO_isNegative_26 : decode b_MO_isNegative 26 = .ok (.aload_n 0, 1) := by decide +kernel
theorem d_MO_isNegative_27 : decode b_MO_isNegative 27 = .ok (.getfield 23, 3) := by decide +kernel
theorem d_MO_isNegative_30 : decode b_MO_isNegative 30 = .ok (.iload_n 1, 1) := by decide +kernel
theorem d_MO_isNegative_31 : decode b_MO_isNegative 31 = .ok (.iaload, 1) := by decide +kernel
theorem d_MO_isNegative_32 : decode b_MO_isNegative 32 = .ok (.aload_n 0, 1) := by decide +kernel
theorem d_MO_isNegative_33 : decode b_MO_isNegative 33 = .ok (.getfield 26, 3) := by decide +kernel
theorem d_MO_isNegative_36 : decode b_MO_isNegative 36 = .ok (.iload_n 1, 1) := by decide +kernel
theorem d_MO_isNegative_37 : decode b_MO_isNegative 37 = .ok (.iaload, 1) := by decide +kernel
theorem d_MO_isNegative_38 : decode b_MO_isNegative 38 = .ok (.invokevirtual 102, 3) := by decide +kernel
theorem d_MO_isNegative_41 : decode b_MO_isNegative 41 = .ok (.ifCond .eq 14, 3) := by decide +kernel
theorem d_MO_isNegative_44 : decode b_MO_isNegative 44 = .ok (.aload_n 0, 1) := by decide +kernel
theorem d_MO_isNegative_45 : decode b_MO_isNegative 45 = .ok (.getfield 88, 3) := by decide +kernel
theorem d_MO_isNegative_48 : decode b_MO_isNegative 48 = .ok (.ifCond .le 7, 3) := by decide +kernel
theorem d_MO_isNegative_51 : decode b_MO_isNegative 51 = .ok (.iconst 1, 1) := by decide +kernel
theorem d_MO_isNegative_52 : decode b_MO_isNegative 52 = .ok (.goto 4, 3) := by decide +kernel
theorem d_MO_isNegative_55 : decode b_MO_isNegative 55 = .ok (.iconst 0, 1) := by decide +kernel
theorem d_MO_isNegative_56 : decode b_MO_isNegative 56 = .ok (.ireturn, 1) := by decide +kernel
