abbrev b_JL_charAt : ByteArray := prog_19_method_2_code
abbrev y_JL_charAt : MethodName := ⟨R_JL, "charAt", "([BI)C"⟩
abbrev w_JL_charAt : List Cond := (.code ⟨"java/lang/StringLatin1", "charAt", "([BI)C"⟩ prog_19_method_2_code 2 (Option.some Jvm.ClassFile.FieldType.char)) :: tt_T
theorem hv_JL_charAt : y_JL_charAt.cls = R_JL ∧ y_JL_charAt.cls ≠ "java/lang/invoke/MethodHandle" ∧ y_JL_charAt.cls ≠ "java/lang/invoke/VarHandle" ∧ (parseMethodDescriptor y_JL_charAt.desc).map (fun d => d.parameters.length) = some 2 := by decide +kernel
theorem d_JL_charAt_0 : decode b_JL_charAt 0 = .ok (.iload_n 1, 1) := by decide +kernel
theorem d_JL_charAt_1 : decode b_JL_charAt 1 = .ok (.ifCond .lt 9, 3) := by decide +kernel
theorem d_JL_charAt_4 : decode b_JL_charAt 4 = .ok (.iload_n 1, 1) := by decide +kernel
theorem d_JL_charAt_5 : decode b_JL_charAt 5 = .ok (.aload_n 0, 1) := by decide +kernel
theorem d_JL_charAt_6 : decode b_JL_charAt 6 = .ok (.arraylength, 1) := by decide +kernel
theorem d_JL_charAt_7 : decode b_JL_charAt 7 = .ok (.if_icmp .lt 12, 3) := by decide +kernel
theorem d_JL_charAt_10 : decode b_JL_charAt 10 = .ok (.new 9, 3) := by decide +kernel
theorem d_JL_charAt_13 : decode b_JL_charAt 13 = .ok (.dup, 1) := by decide +kernel
theorem d_JL_charAt_14 : decode b_JL_charAt 14 = .ok (.iload_n 1, 1) := by decide +kernel
theorem d_JL_charAt_15 : decode b_JL_charAt 15 = .ok (.invokespecial 11, 3) := by decide +kernel
theorem d_JL_charAt_18 : decode b_JL_charAt 18 = .ok (.athrow, 1) := by decide +kernel
theorem d_JL_charAt_19 : decode b_JL_charAt 19 = .ok (.aload_n 0, 1) := by decide +kernel
theorem d_JL_charAt_20 : decode b_JL_charAt 20 = .ok (.iload_n 1, 1) := by decide +kernel
theorem d_JL_charAt_21 : decode b_JL_charAt 21 = .ok (.baload, 1) := by decide +kernel
theorem d_JL_charAt_22 : decode b_JL_charAt 22 = .ok (.sipush 255, 3) := by decide +kernel
theorem d_JL_charAt_25 : decode b_JL_charAt 25 = .ok (.iand, 1) := by decide +kernel
theorem d_JL_charAt_26 : decode b_JL_charAt 26 = .ok (.i2c, 1) := by decide +kernel
theorem d_JL_charAt_27 : decode b_JL_charAt 27 = .ok (.ireturn, 1) := by decide +kernel
