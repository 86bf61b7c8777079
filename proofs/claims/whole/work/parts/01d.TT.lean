abbrev b_TT_init : ByteArray := prog_1_method_1_code
abbrev y_TT_init : MethodName := ⟨R_TT, "<init>", "()V"⟩
abbrev w_TT_init : List Cond := (.code ⟨"TextTerms", "<init>", "()V"⟩ prog_1_method_1_code 1 (Option.none : Option Jvm.ClassFile.FieldType)) :: tt_T
theorem hv_TT_init : y_TT_init.cls = R_TT ∧ y_TT_init.cls ≠ "java/lang/invoke/MethodHandle" ∧ y_TT_init.cls ≠ "java/lang/invoke/VarHandle" ∧ (parseMethodDescriptor y_TT_init.desc).map (fun d => d.parameters.length) = some 0 := by decide +kernel
theorem d_TT_init_0 : decode b_TT_init 0 = .ok (.aload_n 0, 1) := by decide +kernel
theorem d_TT_init_1 : decode b_TT_init 1 = .ok (.invokespecial 1, 3) := by decide +kernel
theorem d_TT_init_4 : decode b_TT_init 4 = .ok (.aload_n 0, 1) := by decide +kernel
theorem d_TT_init_5 : decode b_TT_init 5 = .ok (.new 7, 3) := by decide +kernel
theorem d_TT_init_8 : decode b_TT_init 8 = .ok (.dup, 1) := by decide +kernel
theorem d_TT_init_9 : decode b_TT_init 9 = .ok (.invokespecial 9, 3) := by decide +kernel
theorem d_TT_init_12 : decode b_TT_init 12 = .ok (.putfield 10, 3) := by decide +kernel
theorem d_TT_init_15 : decode b_TT_init 15 = .ok (.aload_n 0, 1) := by decide +kernel
theorem d_TT_init_16 : decode b_TT_init 16 = .ok (.new 16, 3) := by decide +kernel
theorem d_TT_init_19 : decode b_TT_init 19 = .ok (.dup, 1) := by decide +kernel
theorem d_TT_init_20 : decode b_TT_init 20 = .ok (.invokespecial 18, 3) := by decide +kernel
theorem d_TT_init_23 : decode b_TT_init 23 = .ok (.putfield 19, 3) := by decide +kernel
theorem d_TT_init_26 : decode b_TT_init 26 = .ok (.aload_n 0, 1) := by decide +kernel
theorem d_TT_init_27 : decode b_TT_init 27 = .ok (.new 23, 3) := by decide +kernel
theorem d_TT_init_30 : decode b_TT_init 30 = .ok (.dup, 1) := by decide +kernel
theorem d_TT_init_31 : decode b_TT_init 31 = .ok (.invokespecial 25, 3) := by decide +kernel
theorem d_TT_init_34 : decode b_TT_init 34 = .ok (.putfield 26, 3) := by decide +kernel
theorem d_TT_init_37 : decode b_TT_init 37 = .ok (.aload_n 0, 1) := by decide +kernel
theorem d_TT_init_38 : decode b_TT_init 38 = .ok (.new 30, 3) := by decide +kernel
theorem d_TT_init_41 : decode b_TT_init 41 = .ok (.dup, 1) := by decide +kernel
theorem d_TT_init_42 : decode b_TT_init 42 = .ok (.invokespecial 32, 3) := by decide +kernel
theorem d_TT_init_45 : decode b_TT_init 45 = .ok (.putfield 33, 3) := by decide +kernel
theorem d_TT_init_48 : decode b_TT_init 48 = .ok (.return_, 1) := by decide +kernel
abbrev b_TT_feed : ByteArray := prog_1_method_2_code
abbrev y_TT_feed : MethodName := ⟨R_TT, "feed", "(IIIII)V"⟩
abbrev w_TT_feed : List Cond := (.code ⟨"TextTerms", "feed", "(IIIII)V"⟩ prog_1_method_2_code 6 (Option.none : Option Jvm.ClassFile.FieldType)) :: tt_T
theorem hv_TT_feed : y_TT_feed.cls = R_TT ∧ y_TT_feed.cls ≠ "java/lang/invoke/MethodHandle" ∧ y_TT_feed.cls ≠ "java/lang/invoke/VarHandle" ∧ (parseMethodDescriptor y_TT_feed.desc).map (fun d => d.parameters.length) = some 5 := by decide +kernel
theorem d_TT_feed_0 : decode b_TT_feed 0 = .ok (.aload_n 0, 1) := by decide +kernel
theorem d_TT_feed_1 : decode b_TT_feed 1 = .ok (.getfield 10, 3) := by decide +kernel
theorem d_TT_feed_4 : decode b_TT_feed 4 = .ok (.getfield 37, 3) := by decide +kernel
theorem d_TT_feed_7 : decode b_TT_feed 7 = .ok (.sipush 16364, 3) := by decide +kernel
theorem d_TT_feed_10 : decode b_TT_feed 10 = .ok (.if_icmp .le 13, 3) := by decide +kernel
theorem d_TT_feed_13 : decode b_TT_feed 13 = .ok (.new 41, 3) := by decide +kernel
theorem d_TT_feed_16 : decode b_TT_feed 16 = .ok (.dup, 1) := by decide +kernel
theorem d_TT_feed_17 : decode b_TT_feed 17 = .ok (.ldc 43, 2) := by decide +kernel
theorem d_TT_feed_19 : decode b_TT_feed 19 = .ok (.invokespecial 45, 3) := by decide +kernel
theorem d_TT_feed_22 : decode b_TT_feed 22 = .ok (.athrow, 1) := by decide +kernel
theorem d_TT_feed_23 : decode b_TT_feed 23 = .ok (.aload_n 0, 1) := by decide +kernel
theorem d_TT_feed_24 : decode b_TT_feed 24 = .ok (.getfield 10, 3) := by decide +kernel
theorem d_TT_feed_27 : decode b_TT_feed 27 = .ok (.iload_n 1, 1) := by decide +kernel
theorem d_TT_feed_28 : decode b_TT_feed 28 = .ok (.invokevirtual 48, 3) := by decide +kernel
theorem d_TT_feed_31 : decode b_TT_feed 31 = .ok (.aload_n 0, 1) := by decide +kernel
theorem d_TT_feed_32 : decode b_TT_feed 32 = .ok (.getfield 10, 3) := by decide +kernel
theorem d_TT_feed_35 : decode b_TT_feed 35 = .ok (.iload_n 2, 1) := by decide +kernel
theorem d_TT_feed_36 : decode b_TT_feed 36 = .ok (.invokevirtual 48, 3) := by decide +kernel
theorem d_TT_feed_39 : decode b_TT_feed 39 = .ok (.aload_n 0, 1) := by decide +kernel
theorem d_TT_feed_40 : decode b_TT_feed 40 = .ok (.getfield 10, 3) := by decide +kernel
theorem d_TT_feed_43 : decode b_TT_feed 43 = .ok (.iload_n 3, 1) := by decide +kernel
theorem d_TT_feed_44 : decode b_TT_feed 44 = .ok (.invokevirtual 48, 3) := by decide +kernel
theorem d_TT_feed_47 : decode b_TT_feed 47 = .ok (.aload_n 0, 1) := by decide +kernel
theorem d_TT_feed_48 : decode b_TT_feed 48 = .ok (.getfield 10, 3) := by decide +kernel
theorem d_TT_feed_51 : decode b_TT_feed 51 = .ok (.iload 4, 2) := by decide +kernel
theorem d_TT_feed_53 : decode b_TT_feed 53 = .ok (.invokevirtual 48, 3) := by decide +kernel
theorem d_TT_feed_56 : decode b_TT_feed 56 = .ok (.aload_n 0, 1) := by decide +kernel
theorem d_TT_feed_57 : decode b_TT_feed 57 = .ok (.getfield 10, 3) := by decide +kernel
theorem d_TT_feed_60 : decode b_TT_feed 60 = .ok (.iload 5, 2) := by decide +kernel
theorem d_TT_feed_62 : decode b_TT_feed 62 = .ok (.invokevirtual 48, 3) := by decide +kernel
theorem d_TT_feed_65 : decode b_TT_feed 65 = .ok (.return_, 1) := by decide +kernel
abbrev b_TT_end : ByteArray := prog_1_method_3_code
abbrev y_TT_end : MethodName := ⟨R_TT, "end", "(I)I"⟩
abbrev w_TT_end : List Cond := (.code ⟨"TextTerms", "end", "(I)I"⟩ prog_1_method_3_code 3 (Option.some Jvm.ClassFile.FieldType.int)) :: tt_T
theorem hv_TT_end : y_TT_end.cls = R_TT ∧ y_TT_end.cls ≠ "java/lang/invoke/MethodHandle" ∧ y_TT_end.cls ≠ "java/lang/invoke/VarHandle" ∧ (parseMethodDescriptor y_TT_end.desc).map (fun d => d.parameters.length) = some 1 := by decide +kernel
theorem d_TT_end_0 : decode b_TT_end 0 = .ok (.aload_n 0, 1) := by decide +kernel
theorem d_TT_end_1 : decode b_TT_end 1 = .ok (.getfield 10, 3) := by decide +kernel
theorem d_TT_end_4 : decode b_TT_end 4 = .ok (.getfield 37, 3) := by decide +kernel
theorem d_TT_end_7 : decode b_TT_end 7 = .ok (.istore_n 2, 1) := by decide +kernel
theorem d_TT_end_8 : decode b_TT_end 8 = .ok (.iload_n 1, 1) := by decide +kernel
theorem d_TT_end_9 : decode b_TT_end 9 = .ok (.ifCond .lt 8, 3) := by decide +kernel
theorem d_TT_end_12 : decode b_TT_end 12 = .ok (.iload_n 1, 1) := by decide +kernel
theorem d_TT_end_13 : decode b_TT_end 13 = .ok (.iload_n 2, 1) := by decide +kernel
theorem d_TT_end_14 : decode b_TT_end 14 = .ok (.if_icmp .le 13, 3) := by decide +kernel
theorem d_TT_end_17 : decode b_TT_end 17 = .ok (.new 52, 3) := by decide +kernel
theorem d_TT_end_20 : decode b_TT_end 20 = .ok (.dup, 1) := by decide +kernel
theorem d_TT_end_21 : decode b_TT_end 21 = .ok (.ldc 54, 2) := by decide +kernel
theorem d_TT_end_23 : decode b_TT_end 23 = .ok (.invokespecial 56, 3) := by decide +kernel
theorem d_TT_end_26 : decode b_TT_end 26 = .ok (.athrow, 1) := by decide +kernel
theorem d_TT_end_27 : decode b_TT_end 27 = .ok (.aload_n 0, 1) := by decide +kernel
theorem d_TT_end_28 : decode b_TT_end 28 = .ok (.getfield 10, 3) := by decide +kernel
theorem d_TT_end_31 : decode b_TT_end 31 = .ok (.iload_n 1, 1) := by decide +kernel
theorem d_TT_end_32 : decode b_TT_end 32 = .ok (.putfield 37, 3) := by decide +kernel
theorem d_TT_end_35 : decode b_TT_end 35 = .ok (.iload_n 2, 1) := by decide +kernel
theorem d_TT_end_36 : decode b_TT_end 36 = .ok (.ireturn, 1) := by decide +kernel
abbrev b_TT_change : ByteArray := prog_1_method_4_code
abbrev y_TT_change : MethodName := ⟨R_TT, "change", "(II)I"⟩
abbrev w_TT_change : List Cond := (.code ⟨"TextTerms", "change", "(II)I"⟩ prog_1_method_4_code 3 (Option.some Jvm.ClassFile.FieldType.int)) :: tt_T
theorem hv_TT_change : y_TT_change.cls = R_TT ∧ y_TT_change.cls ≠ "java/lang/invoke/MethodHandle" ∧ y_TT_change.cls ≠ "java/lang/invoke/VarHandle" ∧ (parseMethodDescriptor y_TT_change.desc).map (fun d => d.parameters.length) = some 2 := by decide +kernel
theorem d_TT_change_0 : decode b_TT_change 0 = .ok (.aload_n 0, 1) := by decide +kernel
theorem d_TT_change_1 : decode b_TT_change 1 = .ok (.getfield 10, 3) := by decide +kernel
theorem d_TT_change_4 : decode b_TT_change 4 = .ok (.iload_n 1, 1) := by decide +kernel
theorem d_TT_change_5 : decode b_TT_change 5 = .ok (.iload_n 2, 1) := by decide +kernel
theorem d_TT_change_6 : decode b_TT_change 6 = .ok (.invokevirtual 57, 3) := by decide +kernel
theorem d_TT_change_9 : decode b_TT_change 9 = .ok (.ireturn, 1) := by decide +kernel
abbrev b_TT_read : ByteArray := prog_1_method_5_code
abbrev y_TT_read : MethodName := ⟨R_TT, "read", "()I"⟩
abbrev w_TT_read : List Cond := (.code ⟨"TextTerms", "read", "()I"⟩ prog_1_method_5_code 2 (Option.some Jvm.ClassFile.FieldType.int)) :: tt_T
theorem hv_TT_read : y_TT_read.cls = R_TT ∧ y_TT_read.cls ≠ "java/lang/invoke/MethodHandle" ∧ y_TT_read.cls ≠ "java/lang/invoke/VarHandle" ∧ (parseMethodDescriptor y_TT_read.desc).map (fun d => d.parameters.length) = some 0 := by decide +kernel
theorem d_TT_read_0 : decode b_TT_read 0 = .ok (.aload_n 0, 1) := by decide +kernel
theorem d_TT_read_1 : decode b_TT_read 1 = .ok (.getfield 19, 3) := by decide +kernel
theorem d_TT_read_4 : decode b_TT_read 4 = .ok (.aload_n 0, 1) := by decide +kernel
theorem d_TT_read_5 : decode b_TT_read 5 = .ok (.getfield 10, 3) := by decide +kernel
theorem d_TT_read_8 : decode b_TT_read 8 = .ok (.invokevirtual 61, 3) := by decide +kernel
theorem d_TT_read_11 : decode b_TT_read 11 = .ok (.aload_n 0, 1) := by decide +kernel
theorem d_TT_read_12 : decode b_TT_read 12 = .ok (.getfield 26, 3) := by decide +kernel
theorem d_TT_read_15 : decode b_TT_read 15 = .ok (.aload_n 0, 1) := by decide +kernel
theorem d_TT_read_16 : decode b_TT_read 16 = .ok (.getfield 19, 3) := by decide +kernel
theorem d_TT_read_19 : decode b_TT_read 19 = .ok (.invokevirtual 65, 3) := by decide +kernel
theorem d_TT_read_22 : decode b_TT_read 22 = .ok (.istore_n 1, 1) := by decide +kernel
theorem d_TT_read_23 : decode b_TT_read 23 = .ok (.iload_n 1, 1) := by decide +kernel
theorem d_TT_read_24 : decode b_TT_read 24 = .ok (.iconst (-1), 1) := by decide +kernel
theorem d_TT_read_25 : decode b_TT_read 25 = .ok (.if_icmp .eq 10, 3) := by decide +kernel
theorem d_TT_read_28 : decode b_TT_read 28 = .ok (.aload_n 0, 1) := by decide +kernel
theorem d_TT_read_29 : decode b_TT_read 29 = .ok (.getfield 19, 3) := by decide +kernel
theorem d_TT_read_32 : decode b_TT_read 32 = .ok (.invokevirtual 69, 3) := by decide +kernel
theorem d_TT_read_35 : decode b_TT_read 35 = .ok (.iload_n 1, 1) := by decide +kernel
theorem d_TT_read_36 : decode b_TT_read 36 = .ok (.ireturn, 1) := by decide +kernel
abbrev b_TT_count : ByteArray := prog_1_method_6_code
abbrev y_TT_count : MethodName := ⟨R_TT, "count", "()I"⟩
abbrev w_TT_count : List Cond := (.code ⟨"TextTerms", "count", "()I"⟩ prog_1_method_6_code 1 (Option.some Jvm.ClassFile.FieldType.int)) :: tt_T
theorem hv_TT_count : y_TT_count.cls = R_TT ∧ y_TT_count.cls ≠ "java/lang/invoke/MethodHandle" ∧ y_TT_count.cls ≠ "java/lang/invoke/VarHandle" ∧ (parseMethodDescriptor y_TT_count.desc).map (fun d => d.parameters.length) = some 0 := by decide +kernel
theorem d_TT_count_0 : decode b_TT_count 0 = .ok (.aload_n 0, 1) := by decide +kernel
theorem d_TT_count_1 : decode b_TT_count 1 = .ok (.getfield 19, 3) := by decide +kernel
theorem d_TT_count_4 : decode b_TT_count 4 = .ok (.getfield 72, 3) := by decide +kernel
theorem d_TT_count_7 : decode b_TT_count 7 = .ok (.ireturn, 1) := by decide +kernel
abbrev b_TT_kind : ByteArray := prog_1_method_7_code
abbrev y_TT_kind : MethodName := ⟨R_TT, "kind", "(I)I"⟩
abbrev w_TT_kind : List Cond := (.code ⟨"TextTerms", "kind", "(I)I"⟩ prog_1_method_7_code 2 (Option.some Jvm.ClassFile.FieldType.int)) :: tt_T
theorem hv_TT_kind : y_TT_kind.cls = R_TT ∧ y_TT_kind.cls ≠ "java/lang/invoke/MethodHandle" ∧ y_TT_kind.cls ≠ "java/lang/invoke/VarHandle" ∧ (parseMethodDescriptor y_TT_kind.desc).map (fun d => d.parameters.length) = some 1 := by decide +kernel
theorem d_TT_kind_0 : decode b_TT_kind 0 = .ok (.aload_n 0, 1) := by decide +kernel
theorem d_TT_kind_1 : decode b_TT_kind 1 = .ok (.getfield 19, 3) := by decide +kernel
theorem d_TT_kind_4 : decode b_TT_kind 4 = .ok (.aload_n 0, 1) := by decide +kernel
theorem d_TT_kind_5 : decode b_TT_kind 5 = .ok (.getfield 19, 3) := by decide +kernel
theorem d_TT_kind_8 : decode b_TT_kind 8 = .ok (.getfield 73, 3) := by decide +kernel
theorem d_TT_kind_11 : decode b_TT_kind 11 = .ok (.iload_n 1, 1) := by decide +kernel
theorem d_TT_kind_12 : decode b_TT_kind 12 = .ok (.invokevirtual 77, 3) := by decide +kernel
theorem d_TT_kind_15 : decode b_TT_kind 15 = .ok (.ireturn, 1) := by decide +kernel
abbrev b_TT_parent : ByteArray := prog_1_method_8_code
abbrev y_TT_parent : MethodName := ⟨R_TT, "parent", "(I)I"⟩
abbrev w_TT_parent : List Cond := (.code ⟨"TextTerms", "parent", "(I)I"⟩ prog_1_method_8_code 2 (Option.some Jvm.ClassFile.FieldType.int)) :: tt_T
theorem hv_TT_parent : y_TT_parent.cls = R_TT ∧ y_TT_parent.cls ≠ "java/lang/invoke/MethodHandle" ∧ y_TT_parent.cls ≠ "java/lang/invoke/VarHandle" ∧ (parseMethodDescriptor y_TT_parent.desc).map (fun d => d.parameters.length) = some 1 := by decide +kernel
theorem d_TT_parent_0 : decode b_TT_parent 0 = .ok (.aload_n 0, 1) := by decide +kernel
theorem d_TT_parent_1 : decode b_TT_parent 1 = .ok (.getfield 19, 3) := by decide +kernel
theorem d_TT_parent_4 : decode b_TT_parent 4 = .ok (.aload_n 0, 1) := by decide +kernel
theorem d_TT_parent_5 : decode b_TT_parent 5 = .ok (.getfield 19, 3) := by decide +kernel
theorem d_TT_parent_8 : decode b_TT_parent 8 = .ok (.getfield 81, 3) := by decide +kernel
theorem d_TT_parent_11 : decode b_TT_parent 11 = .ok (.iload_n 1, 1) := by decide +kernel
theorem d_TT_parent_12 : decode b_TT_parent 12 = .ok (.invokevirtual 77, 3) := by decide +kernel
theorem d_TT_parent_15 : decode b_TT_parent 15 = .ok (.ireturn, 1) := by decide +kernel
abbrev b_TT_arguments : ByteArray := prog_1_method_9_code
abbrev y_TT_arguments : MethodName := ⟨R_TT, "arguments", "(I)I"⟩
abbrev w_TT_arguments : List Cond := (.code ⟨"TextTerms", "arguments", "(I)I"⟩ prog_1_method_9_code 2 (Option.some Jvm.ClassFile.FieldType.int)) :: tt_T
theorem hv_TT_arguments : y_TT_arguments.cls = R_TT ∧ y_TT_arguments.cls ≠ "java/lang/invoke/MethodHandle" ∧ y_TT_arguments.cls ≠ "java/lang/invoke/VarHandle" ∧ (parseMethodDescriptor y_TT_arguments.desc).map (fun d => d.parameters.length) = some 1 := by decide +kernel
theorem d_TT_arguments_0 : decode b_TT_arguments 0 = .ok (.aload_n 0, 1) := by decide +kernel
theorem d_TT_arguments_1 : decode b_TT_arguments 1 = .ok (.getfield 19, 3) := by decide +kernel
theorem d_TT_arguments_4 : decode b_TT_arguments 4 = .ok (.aload_n 0, 1) := by decide +kernel
theorem d_TT_arguments_5 : decode b_TT_arguments 5 = .ok (.getfield 19, 3) := by decide +kernel
theorem d_TT_arguments_8 : decode b_TT_arguments 8 = .ok (.getfield 84, 3) := by decide +kernel
theorem d_TT_arguments_11 : decode b_TT_arguments 11 = .ok (.iload_n 1, 1) := by decide +kernel
theorem d_TT_arguments_12 : decode b_TT_arguments 12 = .ok (.invokevirtual 77, 3) := by decide +kernel
theorem d_TT_arguments_15 : decode b_TT_arguments 15 = .ok (.ireturn, 1) := by decide +kernel
abbrev b_TT_argument : ByteArray := prog_1_method_10_code
abbrev y_TT_argument : MethodName := ⟨R_TT, "argument", "(II)I"⟩
abbrev w_TT_argument : List Cond := (.code ⟨"TextTerms", "argument", "(II)I"⟩ prog_1_method_10_code 3 (Option.some Jvm.ClassFile.FieldType.int)) :: tt_T
theorem hv_TT_argument : y_TT_argument.cls = R_TT ∧ y_TT_argument.cls ≠ "java/lang/invoke/MethodHandle" ∧ y_TT_argument.cls ≠ "java/lang/invoke/VarHandle" ∧ (parseMethodDescriptor y_TT_argument.desc).map (fun d => d.parameters.length) = some 2 := by decide +kernel
theorem d_TT_argument_0 : decode b_TT_argument 0 = .ok (.aload_n 0, 1) := by decide +kernel
theorem d_TT_argument_1 : decode b_TT_argument 1 = .ok (.getfield 19, 3) := by decide +kernel
theorem d_TT_argument_4 : decode b_TT_argument 4 = .ok (.iload_n 1, 1) := by decide +kernel
theorem d_TT_argument_5 : decode b_TT_argument 5 = .ok (.iload_n 2, 1) := by decide +kernel
theorem d_TT_argument_6 : decode b_TT_argument 6 = .ok (.invokevirtual 87, 3) := by decide +kernel
theorem d_TT_argument_9 : decode b_TT_argument 9 = .ok (.ireturn, 1) := by decide +kernel
abbrev b_TT_size : ByteArray := prog_1_method_11_code
abbrev y_TT_size : MethodName := ⟨R_TT, "size", "(I)I"⟩
abbrev w_TT_size : List Cond := (.code ⟨"TextTerms", "size", "(I)I"⟩ prog_1_method_11_code 2 (Option.some Jvm.ClassFile.FieldType.int)) :: tt_T
theorem hv_TT_size : y_TT_size.cls = R_TT ∧ y_TT_size.cls ≠ "java/lang/invoke/MethodHandle" ∧ y_TT_size.cls ≠ "java/lang/invoke/VarHandle" ∧ (parseMethodDescriptor y_TT_size.desc).map (fun d => d.parameters.length) = some 1 := by decide +kernel
theorem d_TT_size_0 : decode b_TT_size 0 = .ok (.aload_n 0, 1) := by decide +kernel
theorem d_TT_size_1 : decode b_TT_size 1 = .ok (.getfield 19, 3) := by decide +kernel
theorem d_TT_size_4 : decode b_TT_size 4 = .ok (.aload_n 0, 1) := by decide +kernel
theorem d_TT_size_5 : decode b_TT_size 5 = .ok (.getfield 19, 3) := by decide +kernel
theorem d_TT_size_8 : decode b_TT_size 8 = .ok (.getfield 90, 3) := by decide +kernel
theorem d_TT_size_11 : decode b_TT_size 11 = .ok (.iload_n 1, 1) := by decide +kernel
theorem d_TT_size_12 : decode b_TT_size 12 = .ok (.invokevirtual 77, 3) := by decide +kernel
theorem d_TT_size_15 : decode b_TT_size 15 = .ok (.ireturn, 1) := by decide +kernel
abbrev b_TT_word : ByteArray := prog_1_method_12_code
abbrev y_TT_word : MethodName := ⟨R_TT, "word", "(I)I"⟩
abbrev w_TT_word : List Cond := (.code ⟨"TextTerms", "word", "(I)I"⟩ prog_1_method_12_code 2 (Option.some Jvm.ClassFile.FieldType.int)) :: tt_T
theorem hv_TT_word : y_TT_word.cls = R_TT ∧ y_TT_word.cls ≠ "java/lang/invoke/MethodHandle" ∧ y_TT_word.cls ≠ "java/lang/invoke/VarHandle" ∧ (parseMethodDescriptor y_TT_word.desc).map (fun d => d.parameters.length) = some 1 := by decide +kernel
theorem d_TT_word_0 : decode b_TT_word 0 = .ok (.aload_n 0, 1) := by decide +kernel
theorem d_TT_word_1 : decode b_TT_word 1 = .ok (.iload_n 1, 1) := by decide +kernel
theorem d_TT_word_2 : decode b_TT_word 2 = .ok (.invokevirtual 93, 3) := by decide +kernel
theorem d_TT_word_5 : decode b_TT_word 5 = .ok (.iconst 4, 1) := by decide +kernel
theorem d_TT_word_6 : decode b_TT_word 6 = .ok (.if_icmp .eq 5, 3) := by decide +kernel
theorem d_TT_word_9 : decode b_TT_word 9 = .ok (.iconst (-1), 1) := by decide +kernel
theorem d_TT_word_10 : decode b_TT_word 10 = .ok (.ireturn, 1) := by decide +kernel
theorem d_TT_word_11 : decode b_TT_word 11 = .ok (.aload_n 0, 1) := by decide +kernel
theorem d_TT_word_12 : decode b_TT_word 12 = .ok (.getfield 19, 3) := by decide +kernel
theorem d_TT_word_15 : decode b_TT_word 15 = .ok (.getfield 97, 3) := by decide +kernel
theorem d_TT_word_18 : decode b_TT_word 18 = .ok (.aload_n 0, 1) := by decide +kernel
theorem d_TT_word_19 : decode b_TT_word 19 = .ok (.iload_n 1, 1) := by decide +kernel
theorem d_TT_word_20 : decode b_TT_word 20 = .ok (.invokevirtual 100, 3) := by decide +kernel
theorem d_TT_word_23 : decode b_TT_word 23 = .ok (.aload_n 0, 1) := by decide +kernel
theorem d_TT_word_24 : decode b_TT_word 24 = .ok (.iload_n 1, 1) := by decide +kernel
theorem d_TT_word_25 : decode b_TT_word 25 = .ok (.invokevirtual 103, 3) := by decide +kernel
theorem d_TT_word_28 : decode b_TT_word 28 = .ok (.invokestatic 106, 3) := by decide +kernel
theorem d_TT_word_31 : decode b_TT_word 31 = .ok (.ireturn, 1) := by decide +kernel
abbrev b_TT_begins : ByteArray := prog_1_method_13_code
abbrev y_TT_begins : MethodName := ⟨R_TT, "begins", "(I)I"⟩
abbrev w_TT_begins : List Cond := (.code ⟨"TextTerms", "begins", "(I)I"⟩ prog_1_method_13_code 2 (Option.some Jvm.ClassFile.FieldType.int)) :: tt_T
theorem hv_TT_begins : y_TT_begins.cls = R_TT ∧ y_TT_begins.cls ≠ "java/lang/invoke/MethodHandle" ∧ y_TT_begins.cls ≠ "java/lang/invoke/VarHandle" ∧ (parseMethodDescriptor y_TT_begins.desc).map (fun d => d.parameters.length) = some 1 := by decide +kernel
theorem d_TT_begins_0 : decode b_TT_begins 0 = .ok (.aload_n 0, 1) := by decide +kernel
theorem d_TT_begins_1 : decode b_TT_begins 1 = .ok (.getfield 19, 3) := by decide +kernel
theorem d_TT_begins_4 : decode b_TT_begins 4 = .ok (.aload_n 0, 1) := by decide +kernel
theorem d_TT_begins_5 : decode b_TT_begins 5 = .ok (.getfield 19, 3) := by decide +kernel
theorem d_TT_begins_8 : decode b_TT_begins 8 = .ok (.getfield 112, 3) := by decide +kernel
theorem d_TT_begins_11 : decode b_TT_begins 11 = .ok (.iload_n 1, 1) := by decide +kernel
theorem d_TT_begins_12 : decode b_TT_begins 12 = .ok (.invokevirtual 77, 3) := by decide +kernel
theorem d_TT_begins_15 : decode b_TT_begins 15 = .ok (.ireturn, 1) := by decide +kernel
abbrev b_TT_ends : ByteArray := prog_1_method_14_code
abbrev y_TT_ends : MethodName := ⟨R_TT, "ends", "(I)I"⟩
abbrev w_TT_ends : List Cond := (.code ⟨"TextTerms", "ends", "(I)I"⟩ prog_1_method_14_code 2 (Option.some Jvm.ClassFile.FieldType.int)) :: tt_T
theorem hv_TT_ends : y_TT_ends.cls = R_TT ∧ y_TT_ends.cls ≠ "java/lang/invoke/MethodHandle" ∧ y_TT_ends.cls ≠ "java/lang/invoke/VarHandle" ∧ (parseMethodDescriptor y_TT_ends.desc).map (fun d => d.parameters.length) = some 1 := by decide +kernel
theorem d_TT_ends_0 : decode b_TT_ends 0 = .ok (.aload_n 0, 1) := by decide +kernel
theorem d_TT_ends_1 : decode b_TT_ends 1 = .ok (.getfield 19, 3) := by decide +kernel
theorem d_TT_ends_4 : decode b_TT_ends 4 = .ok (.aload_n 0, 1) := by decide +kernel
theorem d_TT_ends_5 : decode b_TT_ends 5 = .ok (.getfield 19, 3) := by decide +kernel
theorem d_TT_ends_8 : decode b_TT_ends 8 = .ok (.getfield 115, 3) := by decide +kernel
theorem d_TT_ends_11 : decode b_TT_ends 11 = .ok (.iload_n 1, 1) := by decide +kernel
theorem d_TT_ends_12 : decode b_TT_ends 12 = .ok (.invokevirtual 77, 3) := by decide +kernel
theorem d_TT_ends_15 : decode b_TT_ends 15 = .ok (.ireturn, 1) := by decide +kernel
abbrev b_TT_mark : ByteArray := prog_1_method_15_code
abbrev y_TT_mark : MethodName := ⟨R_TT, "mark", "(II)I"⟩
abbrev w_TT_mark : List Cond := (.code ⟨"TextTerms", "mark", "(II)I"⟩ prog_1_method_15_code 3 (Option.some Jvm.ClassFile.FieldType.int)) :: tt_T
theorem hv_TT_mark : y_TT_mark.cls = R_TT ∧ y_TT_mark.cls ≠ "java/lang/invoke/MethodHandle" ∧ y_TT_mark.cls ≠ "java/lang/invoke/VarHandle" ∧ (parseMethodDescriptor y_TT_mark.desc).map (fun d => d.parameters.length) = some 2 := by decide +kernel
theorem d_TT_mark_0 : decode b_TT_mark 0 = .ok (.aload_n 0, 1) := by decide +kernel
theorem d_TT_mark_1 : decode b_TT_mark 1 = .ok (.iload_n 1, 1) := by decide +kernel
theorem d_TT_mark_2 : decode b_TT_mark 2 = .ok (.invokevirtual 93, 3) := by decide +kernel
theorem d_TT_mark_5 : decode b_TT_mark 5 = .ok (.iconst 4, 1) := by decide +kernel
theorem d_TT_mark_6 : decode b_TT_mark 6 = .ok (.if_icmp .eq 5, 3) := by decide +kernel
theorem d_TT_mark_9 : decode b_TT_mark 9 = .ok (.iconst (-1), 1) := by decide +kernel
theorem d_TT_mark_10 : decode b_TT_mark 10 = .ok (.ireturn, 1) := by decide +kernel
theorem d_TT_mark_11 : decode b_TT_mark 11 = .ok (.aload_n 0, 1) := by decide +kernel
theorem d_TT_mark_12 : decode b_TT_mark 12 = .ok (.getfield 19, 3) := by decide +kernel
theorem d_TT_mark_15 : decode b_TT_mark 15 = .ok (.getfield 97, 3) := by decide +kernel
theorem d_TT_mark_18 : decode b_TT_mark 18 = .ok (.aload_n 0, 1) := by decide +kernel
theorem d_TT_mark_19 : decode b_TT_mark 19 = .ok (.getfield 19, 3) := by decide +kernel
theorem d_TT_mark_22 : decode b_TT_mark 22 = .ok (.aload_n 0, 1) := by decide +kernel
theorem d_TT_mark_23 : decode b_TT_mark 23 = .ok (.getfield 19, 3) := by decide +kernel
theorem d_TT_mark_26 : decode b_TT_mark 26 = .ok (.getfield 118, 3) := by decide +kernel
theorem d_TT_mark_29 : decode b_TT_mark 29 = .ok (.iload_n 1, 1) := by decide +kernel
theorem d_TT_mark_30 : decode b_TT_mark 30 = .ok (.invokevirtual 77, 3) := by decide +kernel
theorem d_TT_mark_33 : decode b_TT_mark 33 = .ok (.aload_n 0, 1) := by decide +kernel
theorem d_TT_mark_34 : decode b_TT_mark 34 = .ok (.getfield 19, 3) := by decide +kernel
theorem d_TT_mark_37 : decode b_TT_mark 37 = .ok (.aload_n 0, 1) := by decide +kernel
theorem d_TT_mark_38 : decode b_TT_mark 38 = .ok (.getfield 19, 3) := by decide +kernel
theorem d_TT_mark_41 : decode b_TT_mark 41 = .ok (.getfield 121, 3) := by decide +kernel
theorem d_TT_mark_44 : decode b_TT_mark 44 = .ok (.iload_n 1, 1) := by decide +kernel
theorem d_TT_mark_45 : decode b_TT_mark 45 = .ok (.invokevirtual 77, 3) := by decide +kernel
theorem d_TT_mark_48 : decode b_TT_mark 48 = .ok (.iload_n 2, 1) := by decide +kernel
theorem d_TT_mark_49 : decode b_TT_mark 49 = .ok (.invokevirtual 124, 3) := by decide +kernel
theorem d_TT_mark_52 : decode b_TT_mark 52 = .ok (.ireturn, 1) := by decide +kernel
abbrev b_TT_length : ByteArray := prog_1_method_16_code
abbrev y_TT_length : MethodName := ⟨R_TT, "length", "(I)I"⟩
abbrev w_TT_length : List Cond := (.code ⟨"TextTerms", "length", "(I)I"⟩ prog_1_method_16_code 4 (Option.some Jvm.ClassFile.FieldType.int)) :: tt_T
theorem hv_TT_length : y_TT_length.cls = R_TT ∧ y_TT_length.cls ≠ "java/lang/invoke/MethodHandle" ∧ y_TT_length.cls ≠ "java/lang/invoke/VarHandle" ∧ (parseMethodDescriptor y_TT_length.desc).map (fun d => d.parameters.length) = some 1 := by decide +kernel
theorem d_TT_length_0 : decode b_TT_length 0 = .ok (.aload_n 0, 1) := by decide +kernel
theorem d_TT_length_1 : decode b_TT_length 1 = .ok (.iload_n 1, 1) := by decide +kernel
theorem d_TT_length_2 : decode b_TT_length 2 = .ok (.invokevirtual 100, 3) := by decide +kernel
theorem d_TT_length_5 : decode b_TT_length 5 = .ok (.istore_n 2, 1) := by decide +kernel
theorem d_TT_length_6 : decode b_TT_length 6 = .ok (.aload_n 0, 1) := by decide +kernel
theorem d_TT_length_7 : decode b_TT_length 7 = .ok (.iload_n 1, 1) := by decide +kernel
theorem d_TT_length_8 : decode b_TT_length 8 = .ok (.invokevirtual 103, 3) := by decide +kernel
theorem d_TT_length_11 : decode b_TT_length 11 = .ok (.istore_n 3, 1) := by decide +kernel
theorem d_TT_length_12 : decode b_TT_length 12 = .ok (.aload_n 0, 1) := by decide +kernel
theorem d_TT_length_13 : decode b_TT_length 13 = .ok (.iload_n 1, 1) := by decide +kernel
theorem d_TT_length_14 : decode b_TT_length 14 = .ok (.invokevirtual 93, 3) := by decide +kernel
theorem d_TT_length_17 : decode b_TT_length 17 = .ok (.tableswitch 82 0 4 #[35, 59, 72, 82, 78], 35) := by decide +kernel
theorem d_TT_length_52 : decode b_TT_length 52 = .ok (.aload_n 0, 1) := by decide +kernel
theorem d_TT_length_53 : decode b_TT_length 53 = .ok (.getfield 33, 3) := by decide +kernel
theorem d_TT_length_56 : decode b_TT_length 56 = .ok (.aload_n 0, 1) := by decide +kernel
theorem d_TT_length_57 : decode b_TT_length 57 = .ok (.getfield 19, 3) := by decide +kernel
theorem d_TT_length_60 : decode b_TT_length 60 = .ok (.getfield 97, 3) := by decide +kernel
theorem d_TT_length_63 : decode b_TT_length 63 = .ok (.iload_n 2, 1) := by decide +kernel
theorem d_TT_length_64 : decode b_TT_length 64 = .ok (.iload_n 3, 1) := by decide +kernel
theorem d_TT_length_65 : decode b_TT_length 65 = .ok (.invokevirtual 127, 3) := by decide +kernel
theorem d_TT_length_68 : decode b_TT_length 68 = .ok (.aload_n 0, 1) := by decide +kernel
theorem d_TT_length_69 : decode b_TT_length 69 = .ok (.getfield 33, 3) := by decide +kernel
theorem d_TT_length_72 : decode b_TT_length 72 = .ok (.invokevirtual 131, 3) := by decide +kernel
theorem d_TT_length_75 : decode b_TT_length 75 = .ok (.ireturn, 1) := by decide +kernel
theorem d_TT_length_76 : decode b_TT_length 76 = .ok (.aload_n 0, 1) := by decide +kernel
theorem d_TT_length_77 : decode b_TT_length 77 = .ok (.getfield 19, 3) := by decide +kernel
theorem d_TT_length_80 : decode b_TT_length 80 = .ok (.getfield 97, 3) := by decide +kernel
theorem d_TT_length_83 : decode b_TT_length 83 = .ok (.iload_n 2, 1) := by decide +kernel
theorem d_TT_length_84 : decode b_TT_length 84 = .ok (.iload_n 3, 1) := by decide +kernel
theorem d_TT_length_85 : decode b_TT_length 85 = .ok (.invokestatic 135, 3) := by decide +kernel
theorem d_TT_length_88 : decode b_TT_length 88 = .ok (.ireturn, 1) := by decide +kernel
theorem d_TT_length_89 : decode b_TT_length 89 = .ok (.iload_n 2, 1) := by decide +kernel
theorem d_TT_length_90 : decode b_TT_length 90 = .ok (.iload_n 3, 1) := by decide +kernel
theorem d_TT_length_91 : decode b_TT_length 91 = .ok (.invokestatic 140, 3) := by decide +kernel
theorem d_TT_length_94 : decode b_TT_length 94 = .ok (.ireturn, 1) := by decide +kernel
theorem d_TT_length_95 : decode b_TT_length 95 = .ok (.iload_n 3, 1) := by decide +kernel
theorem d_TT_length_96 : decode b_TT_length 96 = .ok (.iload_n 2, 1) := by decide +kernel
theorem d_TT_length_97 : decode b_TT_length 97 = .ok (.isub, 1) := by decide +kernel
theorem d_TT_length_98 : decode b_TT_length 98 = .ok (.ireturn, 1) := by decide +kernel
theorem d_TT_length_99 : decode b_TT_length 99 = .ok (.iconst (-1), 1) := by decide +kernel
theorem d_TT_length_100 : decode b_TT_length 100 = .ok (.ireturn, 1) := by decide +kernel
abbrev b_TT_part : ByteArray := prog_1_method_17_code
abbrev y_TT_part : MethodName := ⟨R_TT, "part", "(II)I"⟩
abbrev w_TT_part : List Cond := (.code ⟨"TextTerms", "part", "(II)I"⟩ prog_1_method_17_code 5 (Option.some Jvm.ClassFile.FieldType.int)) :: tt_T
theorem hv_TT_part : y_TT_part.cls = R_TT ∧ y_TT_part.cls ≠ "java/lang/invoke/MethodHandle" ∧ y_TT_part.cls ≠ "java/lang/invoke/VarHandle" ∧ (parseMethodDescriptor y_TT_part.desc).map (fun d => d.parameters.length) = some 2 := by decide +kernel
theorem d_TT_part_0 : decode b_TT_part 0 = .ok (.aload_n 0, 1) := by decide +kernel
theorem d_TT_part_1 : decode b_TT_part 1 = .ok (.iload_n 1, 1) := by decide +kernel
theorem d_TT_part_2 : decode b_TT_part 2 = .ok (.invokevirtual 100, 3) := by decide +kernel
theorem d_TT_part_5 : decode b_TT_part 5 = .ok (.istore_n 3, 1) := by decide +kernel
theorem d_TT_part_6 : decode b_TT_part 6 = .ok (.aload_n 0, 1) := by decide +kernel
theorem d_TT_part_7 : decode b_TT_part 7 = .ok (.iload_n 1, 1) := by decide +kernel
theorem d_TT_part_8 : decode b_TT_part 8 = .ok (.invokevirtual 103, 3) := by decide +kernel
theorem d_TT_part_11 : decode b_TT_part 11 = .ok (.istore 4, 2) := by decide +kernel
theorem d_TT_part_13 : decode b_TT_part 13 = .ok (.aload_n 0, 1) := by decide +kernel
theorem d_TT_part_14 : decode b_TT_part 14 = .ok (.iload_n 1, 1) := by decide +kernel
theorem d_TT_part_15 : decode b_TT_part 15 = .ok (.invokevirtual 93, 3) := by decide +kernel
theorem d_TT_part_18 : decode b_TT_part 18 = .ok (.tableswitch 120 0 4 #[34, 75, 90, 120, 105], 34) := by decide +kernel
theorem d_TT_part_52 : decode b_TT_part 52 = .ok (.aload_n 0, 1) := by decide +kernel
theorem d_TT_part_53 : decode b_TT_part 53 = .ok (.getfield 33, 3) := by decide +kernel
theorem d_TT_part_56 : decode b_TT_part 56 = .ok (.aload_n 0, 1) := by decide +kernel
theorem d_TT_part_57 : decode b_TT_part 57 = .ok (.getfield 19, 3) := by decide +kernel
theorem d_TT_part_60 : decode b_TT_part 60 = .ok (.getfield 97, 3) := by decide +kernel
theorem d_TT_part_63 : decode b_TT_part 63 = .ok (.iload_n 3, 1) := by decide +kernel
theorem d_TT_part_64 : decode b_TT_part 64 = .ok (.iload 4, 2) := by decide +kernel
theorem d_TT_part_66 : decode b_TT_part 66 = .ok (.invokevirtual 127, 3) := by decide +kernel
theorem d_TT_part_69 : decode b_TT_part 69 = .ok (.iload_n 2, 1) := by decide +kernel
theorem d_TT_part_70 : decode b_TT_part 70 = .ok (.aload_n 0, 1) := by decide +kernel
theorem d_TT_part_71 : decode b_TT_part 71 = .ok (.getfield 33, 3) := by decide +kernel
theorem d_TT_part_74 : decode b_TT_part 74 = .ok (.invokevirtual 131, 3) := by decide +kernel
theorem d_TT_part_77 : decode b_TT_part 77 = .ok (.if_icmp .ge 14, 3) := by decide +kernel
theorem d_TT_part_80 : decode b_TT_part 80 = .ok (.aload_n 0, 1) := by decide +kernel
theorem d_TT_part_81 : decode b_TT_part 81 = .ok (.getfield 33, 3) := by decide +kernel
theorem d_TT_part_84 : decode b_TT_part 84 = .ok (.iload_n 2, 1) := by decide +kernel
theorem d_TT_part_85 : decode b_TT_part 85 = .ok (.invokevirtual 143, 3) := by decide +kernel
theorem d_TT_part_88 : decode b_TT_part 88 = .ok (.goto 4, 3) := by decide +kernel
theorem d_TT_part_91 : decode b_TT_part 91 = .ok (.iconst (-1), 1) := by decide +kernel
theorem d_TT_part_92 : decode b_TT_part 92 = .ok (.ireturn, 1) := by decide +kernel
theorem d_TT_part_93 : decode b_TT_part 93 = .ok (.aload_n 0, 1) := by decide +kernel
theorem d_TT_part_94 : decode b_TT_part 94 = .ok (.getfield 19, 3) := by decide +kernel
theorem d_TT_part_97 : decode b_TT_part 97 = .ok (.getfield 97, 3) := by decide +kernel
theorem d_TT_part_100 : decode b_TT_part 100 = .ok (.iload_n 3, 1) := by decide +kernel
theorem d_TT_part_101 : decode b_TT_part 101 = .ok (.iload 4, 2) := by decide +kernel
theorem d_TT_part_103 : decode b_TT_part 103 = .ok (.iload_n 2, 1) := by decide +kernel
theorem d_TT_part_104 : decode b_TT_part 104 = .ok (.invokestatic 146, 3) := by decide +kernel
theorem d_TT_part_107 : decode b_TT_part 107 = .ok (.ireturn, 1) := by decide +kernel
theorem d_TT_part_108 : decode b_TT_part 108 = .ok (.aload_n 0, 1) := by decide +kernel
theorem d_TT_part_109 : decode b_TT_part 109 = .ok (.getfield 19, 3) := by decide +kernel
theorem d_TT_part_112 : decode b_TT_part 112 = .ok (.getfield 97, 3) := by decide +kernel
theorem d_TT_part_115 : decode b_TT_part 115 = .ok (.iload_n 3, 1) := by decide +kernel
theorem d_TT_part_116 : decode b_TT_part 116 = .ok (.iload 4, 2) := by decide +kernel
theorem d_TT_part_118 : decode b_TT_part 118 = .ok (.iload_n 2, 1) := by decide +kernel
theorem d_TT_part_119 : decode b_TT_part 119 = .ok (.invokestatic 150, 3) := by decide +kernel
theorem d_TT_part_122 : decode b_TT_part 122 = .ok (.ireturn, 1) := by decide +kernel
theorem d_TT_part_123 : decode b_TT_part 123 = .ok (.aload_n 0, 1) := by decide +kernel
theorem d_TT_part_124 : decode b_TT_part 124 = .ok (.getfield 19, 3) := by decide +kernel
theorem d_TT_part_127 : decode b_TT_part 127 = .ok (.getfield 97, 3) := by decide +kernel
theorem d_TT_part_130 : decode b_TT_part 130 = .ok (.iload_n 3, 1) := by decide +kernel
theorem d_TT_part_131 : decode b_TT_part 131 = .ok (.iload 4, 2) := by decide +kernel
theorem d_TT_part_133 : decode b_TT_part 133 = .ok (.iload_n 2, 1) := by decide +kernel
theorem d_TT_part_134 : decode b_TT_part 134 = .ok (.invokevirtual 124, 3) := by decide +kernel
theorem d_TT_part_137 : decode b_TT_part 137 = .ok (.ireturn, 1) := by decide +kernel
theorem d_TT_part_138 : decode b_TT_part 138 = .ok (.iconst (-1), 1) := by decide +kernel
theorem d_TT_part_139 : decode b_TT_part 139 = .ok (.ireturn, 1) := by decide +kernel
abbrev b_TT_isNegative : ByteArray := prog_1_method_18_code
abbrev y_TT_isNegative : MethodName := ⟨R_TT, "isNegative", "(I)Z"⟩
abbrev w_TT_isNegative : List Cond := (.code ⟨"TextTerms", "isNegative", "(I)Z"⟩ prog_1_method_18_code 2 (Option.some Jvm.ClassFile.FieldType.boolean)) :: tt_T
theorem hv_TT_isNegative : y_TT_isNegative.cls = R_TT ∧ y_TT_isNegative.cls ≠ "java/lang/invoke/MethodHandle" ∧ y_TT_isNegative.cls ≠ "java/lang/invoke/VarHandle" ∧ (parseMethodDescriptor y_TT_isNegative.desc).map (fun d => d.parameters.length) = some 1 := by decide +kernel
theorem d_TT_isNegative_0 : decode b_TT_isNegative 0 = .ok (.aload_n 0, 1) := by decide +kernel
theorem d_TT_isNegative_1 : decode b_TT_isNegative 1 = .ok (.iload_n 1, 1) := by decide +kernel
theorem d_TT_isNegative_2 : decode b_TT_isNegative 2 = .ok (.invokevirtual 93, 3) := by decide +kernel
theorem d_TT_isNegative_5 : decode b_TT_isNegative 5 = .ok (.ifCond .ne 30, 3) := by decide +kernel
theorem d_TT_isNegative_8 : decode b_TT_isNegative 8 = .ok (.aload_n 0, 1) := by decide +kernel
theorem d_TT_isNegative_9 : decode b_TT_isNegative 9 = .ok (.getfield 19, 3) := by decide +kernel
theorem d_TT_isNegative_12 : decode b_TT_isNegative 12 = .ok (.getfield 97, 3) := by decide +kernel
theorem d_TT_isNegative_15 : decode b_TT_isNegative 15 = .ok (.aload_n 0, 1) := by decide +kernel
theorem d_TT_isNegative_16 : decode b_TT_isNegative 16 = .ok (.iload_n 1, 1) := by decide +kernel
theorem d_TT_isNegative_17 : decode b_TT_isNegative 17 = .ok (.invokevirtual 100, 3) := by decide +kernel
theorem d_TT_isNegative_20 : decode b_TT_isNegative 20 = .ok (.aload_n 0, 1) := by decide +kernel
theorem d_TT_isNegative_21 : decode b_TT_isNegative 21 = .ok (.iload_n 1, 1) := by decide +kernel
theorem d_TT_isNegative_22 : decode b_TT_isNegative 22 = .ok (.invokevirtual 103, 3) := by decide +kernel
theorem d_TT_isNegative_25 : decode b_TT_isNegative 25 = .ok (.invokestatic 153, 3) := by decide +kernel
theorem d_TT_isNegative_28 : decode b_TT_isNegative 28 = .ok (.ifCond .eq 7, 3) := by decide +kernel
theorem d_TT_isNegative_31 : decode b_TT_isNegative 31 = .ok (.iconst 1, 1) := by decide +kernel
theorem d_TT_isNegative_32 : decode b_TT_isNegative 32 = .ok (.goto 4, 3) := by decide +kernel
theorem d_TT_isNegative_35 : decode b_TT_isNegative 35 = .ok (.iconst 0, 1) := by decide +kernel
theorem d_TT_isNegative_36 : decode b_TT_isNegative 36 = .ok (.ireturn, 1) := by decide +kernel
