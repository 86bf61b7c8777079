abbrev b_LW_feed : ByteArray := method_3_code
abbrev y_LW_feed : MethodName := ⟨R_LW, "feed", "(LTextTerms;IIIII)I"⟩
abbrev w_LW_feed : List Cond := (.codeWith ⟨"TextTermsLaw", "feed", "(LTextTerms;IIIII)I"⟩ method_3_code 7 (Option.some Jvm.ClassFile.FieldType.int) [(0, 11, 14, 13)]) :: tt_T
theorem hv_LW_feed : y_LW_feed.cls = R_LW ∧ y_LW_feed.cls ≠ "java/lang/invoke/MethodHandle" ∧ y_LW_feed.cls ≠ "java/lang/invoke/VarHandle" ∧ (parseMethodDescriptor y_LW_feed.desc).map (fun d => d.parameters.length) = some 6 := by decide +kernel
theorem d_LW_feed_0 : decode b_LW_feed 0 = .ok (.aload_n 0, 1) := by decide +kernel
theorem d_LW_feed_1 : decode b_LW_feed 1 = .ok (.iload_n 1, 1) := by decide +kernel
theorem d_LW_feed_2 : decode b_LW_feed 2 = .ok (.iload_n 2, 1) := by decide +kernel
theorem d_LW_feed_3 : decode b_LW_feed 3 = .ok (.iload_n 3, 1) := by decide +kernel
theorem d_LW_feed_4 : decode b_LW_feed 4 = .ok (.iload 4, 2) := by decide +kernel
theorem d_LW_feed_6 : decode b_LW_feed 6 = .ok (.iload 5, 2) := by decide +kernel
theorem d_LW_feed_8 : decode b_LW_feed 8 = .ok (.invokevirtual 7, 3) := by decide +kernel
theorem d_LW_feed_11 : decode b_LW_feed 11 = .ok (.goto 7, 3) := by decide +kernel
theorem d_LW_feed_14 : decode b_LW_feed 14 = .ok (.astore 6, 2) := by decide +kernel
theorem d_LW_feed_16 : decode b_LW_feed 16 = .ok (.iconst 1, 1) := by decide +kernel
theorem d_LW_feed_17 : decode b_LW_feed 17 = .ok (.ireturn, 1) := by decide +kernel
theorem d_LW_feed_18 : decode b_LW_feed 18 = .ok (.iconst 0, 1) := by decide +kernel
theorem d_LW_feed_19 : decode b_LW_feed 19 = .ok (.ireturn, 1) := by decide +kernel
abbrev b_LW_end : ByteArray := method_4_code
abbrev y_LW_end : MethodName := ⟨R_LW, "end", "(LTextTerms;I[J)I"⟩
abbrev w_LW_end : List Cond := (.codeWith ⟨"TextTermsLaw", "end", "(LTextTerms;I[J)I"⟩ method_4_code 4 (Option.some Jvm.ClassFile.FieldType.int) [(0, 9, 12, 19)]) :: tt_T
theorem hv_LW_end : y_LW_end.cls = R_LW ∧ y_LW_end.cls ≠ "java/lang/invoke/MethodHandle" ∧ y_LW_end.cls ≠ "java/lang/invoke/VarHandle" ∧ (parseMethodDescriptor y_LW_end.desc).map (fun d => d.parameters.length) = some 3 := by decide +kernel
theorem d_LW_end_0 : decode b_LW_end 0 = .ok (.aload_n 2, 1) := by decide +kernel
theorem d_LW_end_1 : decode b_LW_end 1 = .ok (.iconst 0, 1) := by decide +kernel
theorem d_LW_end_2 : decode b_LW_end 2 = .ok (.aload_n 0, 1) := by decide +kernel
theorem d_LW_end_3 : decode b_LW_end 3 = .ok (.iload_n 1, 1) := by decide +kernel
theorem d_LW_end_4 : decode b_LW_end 4 = .ok (.invokevirtual 15, 3) := by decide +kernel
theorem d_LW_end_7 : decode b_LW_end 7 = .ok (.i2l, 1) := by decide +kernel
theorem d_LW_end_8 : decode b_LW_end 8 = .ok (.lastore, 1) := by decide +kernel
theorem d_LW_end_9 : decode b_LW_end 9 = .ok (.goto 6, 3) := by decide +kernel
theorem d_LW_end_12 : decode b_LW_end 12 = .ok (.astore_n 3, 1) := by decide +kernel
theorem d_LW_end_13 : decode b_LW_end 13 = .ok (.iconst 1, 1) := by decide +kernel
theorem d_LW_end_14 : decode b_LW_end 14 = .ok (.ireturn, 1) := by decide +kernel
theorem d_LW_end_15 : decode b_LW_end 15 = .ok (.iconst 0, 1) := by decide +kernel
theorem d_LW_end_16 : decode b_LW_end 16 = .ok (.ireturn, 1) := by decide +kernel
