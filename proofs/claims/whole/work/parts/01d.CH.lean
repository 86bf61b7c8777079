abbrev b_CH_belongs : ByteArray := prog_3_method_2_code
abbrev y_CH_belongs : MethodName := ⟨R_CH, "belongs", "(II)Z"⟩
abbrev w_CH_belongs : List Cond := (.code ⟨"TextTerms$Characters", "belongs", "(II)Z"⟩ prog_3_method_2_code 2 (Option.some Jvm.ClassFile.FieldType.boolean)) :: tt_T
theorem hv_CH_belongs : y_CH_belongs.cls = R_CH ∧ y_CH_belongs.cls ≠ "java/lang/invoke/MethodHandle" ∧ y_CH_belongs.cls ≠ "java/lang/invoke/VarHandle" ∧ (parseMethodDescriptor y_CH_belongs.desc).map (fun d => d.parameters.length) = some 2 := by decide +kernel
theorem d_CH_belongs_0 : decode b_CH_belongs 0 = .ok (.iload_n 1, 1) := by decide +kernel
theorem d_CH_belongs_1 : decode b_CH_belongs 1 = .ok (.lookupswitch 46 #[(0, 27), (1, 32)], 27) := by decide +kernel
theorem d_CH_belongs_28 : decode b_CH_belongs 28 = .ok (.iload_n 0, 1) := by decide +kernel
theorem d_CH_belongs_29 : decode b_CH_belongs 29 = .ok (.invokestatic 9, 3) := by decide +kernel
theorem d_CH_belongs_32 : decode b_CH_belongs 32 = .ok (.ireturn, 1) := by decide +kernel
theorem d_CH_belongs_33 : decode b_CH_belongs 33 = .ok (.iload_n 0, 1) := by decide +kernel
theorem d_CH_belongs_34 : decode b_CH_belongs 34 = .ok (.invokestatic 15, 3) := by decide +kernel
theorem d_CH_belongs_37 : decode b_CH_belongs 37 = .ok (.iconst (-1), 1) := by decide +kernel
theorem d_CH_belongs_38 : decode b_CH_belongs 38 = .ok (.if_icmp .eq 7, 3) := by decide +kernel
theorem d_CH_belongs_41 : decode b_CH_belongs 41 = .ok (.iconst 1, 1) := by decide +kernel
theorem d_CH_belongs_42 : decode b_CH_belongs 42 = .ok (.goto 4, 3) := by decide +kernel
theorem d_CH_belongs_45 : decode b_CH_belongs 45 = .ok (.iconst 0, 1) := by decide +kernel
theorem d_CH_belongs_46 : decode b_CH_belongs 46 = .ok (.ireturn, 1) := by decide +kernel
theorem d_CH_belongs_47 : decode b_CH_belongs 47 = .ok (.iload_n 0, 1) := by decide +kernel
theorem d_CH_belongs_48 : decode b_CH_belongs 48 = .ok (.invokestatic 9, 3) := by decide +kernel
theorem d_CH_belongs_51 : decode b_CH_belongs 51 = .ok (.ifCond .ne 10, 3) := by decide +kernel
theorem d_CH_belongs_54 : decode b_CH_belongs 54 = .ok (.iload_n 0, 1) := by decide +kernel
theorem d_CH_belongs_55 : decode b_CH_belongs 55 = .ok (.invokestatic 19, 3) := by decide +kernel
theorem d_CH_belongs_58 : decode b_CH_belongs 58 = .ok (.ifCond .eq 7, 3) := by decide +kernel
theorem d_CH_belongs_61 : decode b_CH_belongs 61 = .ok (.iconst 1, 1) := by decide +kernel
theorem d_CH_belongs_62 : decode b_CH_belongs 62 = .ok (.goto 4, 3) := by decide +kernel
theorem d_CH_belongs_65 : decode b_CH_belongs 65 = .ok (.iconst 0, 1) := by decide +kernel
theorem d_CH_belongs_66 : decode b_CH_belongs 66 = .ok (.ireturn, 1) := by decide +kernel
abbrev b_CH_isDigit : ByteArray := prog_3_method_3_code
abbrev y_CH_isDigit : MethodName := ⟨R_CH, "isDigit", "(I)Z"⟩
abbrev w_CH_isDigit : List Cond := (.code ⟨"TextTerms$Characters", "isDigit", "(I)Z"⟩ prog_3_method_3_code 1 (Option.some Jvm.ClassFile.FieldType.boolean)) :: tt_T
theorem hv_CH_isDigit : y_CH_isDigit.cls = R_CH ∧ y_CH_isDigit.cls ≠ "java/lang/invoke/MethodHandle" ∧ y_CH_isDigit.cls ≠ "java/lang/invoke/VarHandle" ∧ (parseMethodDescriptor y_CH_isDigit.desc).map (fun d => d.parameters.length) = some 1 := by decide +kernel
theorem d_CH_isDigit_0 : decode b_CH_isDigit 0 = .ok (.iload_n 0, 1) := by decide +kernel
theorem d_CH_isDigit_1 : decode b_CH_isDigit 1 = .ok (.bipush 48, 2) := by decide +kernel
theorem d_CH_isDigit_3 : decode b_CH_isDigit 3 = .ok (.if_icmp .lt 13, 3) := by decide +kernel
theorem d_CH_isDigit_6 : decode b_CH_isDigit 6 = .ok (.iload_n 0, 1) := by decide +kernel
theorem d_CH_isDigit_7 : decode b_CH_isDigit 7 = .ok (.bipush 57, 2) := by decide +kernel
theorem d_CH_isDigit_9 : decode b_CH_isDigit 9 = .ok (.if_icmp .gt 7, 3) := by decide +kernel
theorem d_CH_isDigit_12 : decode b_CH_isDigit 12 = .ok (.iconst 1, 1) := by decide +kernel
theorem d_CH_isDigit_13 : decode b_CH_isDigit 13 = .ok (.goto 4, 3) := by decide +kernel
theorem d_CH_isDigit_16 : decode b_CH_isDigit 16 = .ok (.iconst 0, 1) := by decide +kernel
theorem d_CH_isDigit_17 : decode b_CH_isDigit 17 = .ok (.ireturn, 1) := by decide +kernel
abbrev b_CH_beginsWord : ByteArray := prog_3_method_4_code
abbrev y_CH_beginsWord : MethodName := ⟨R_CH, "beginsWord", "(I)Z"⟩
abbrev w_CH_beginsWord : List Cond := (.code ⟨"TextTerms$Characters", "beginsWord", "(I)Z"⟩ prog_3_method_4_code 1 (Option.some Jvm.ClassFile.FieldType.boolean)) :: tt_T
theorem hv_CH_beginsWord : y_CH_beginsWord.cls = R_CH ∧ y_CH_beginsWord.cls ≠ "java/lang/invoke/MethodHandle" ∧ y_CH_beginsWord.cls ≠ "java/lang/invoke/VarHandle" ∧ (parseMethodDescriptor y_CH_beginsWord.desc).map (fun d => d.parameters.length) = some 1 := by decide +kernel
theorem d_CH_beginsWord_0 : decode b_CH_beginsWord 0 = .ok (.iload_n 0, 1) := by decide +kernel
theorem d_CH_beginsWord_1 : decode b_CH_beginsWord 1 = .ok (.bipush 97, 2) := by decide +kernel
theorem d_CH_beginsWord_3 : decode b_CH_beginsWord 3 = .ok (.if_icmp .lt 9, 3) := by decide +kernel
theorem d_CH_beginsWord_6 : decode b_CH_beginsWord 6 = .ok (.iload_n 0, 1) := by decide +kernel
theorem d_CH_beginsWord_7 : decode b_CH_beginsWord 7 = .ok (.bipush 122, 2) := by decide +kernel
theorem d_CH_beginsWord_9 : decode b_CH_beginsWord 9 = .ok (.if_icmp .le 21, 3) := by decide +kernel
theorem d_CH_beginsWord_12 : decode b_CH_beginsWord 12 = .ok (.iload_n 0, 1) := by decide +kernel
theorem d_CH_beginsWord_13 : decode b_CH_beginsWord 13 = .ok (.bipush 65, 2) := by decide +kernel
theorem d_CH_beginsWord_15 : decode b_CH_beginsWord 15 = .ok (.if_icmp .lt 9, 3) := by decide +kernel
theorem d_CH_beginsWord_18 : decode b_CH_beginsWord 18 = .ok (.iload_n 0, 1) := by decide +kernel
theorem d_CH_beginsWord_19 : decode b_CH_beginsWord 19 = .ok (.bipush 90, 2) := by decide +kernel
theorem d_CH_beginsWord_21 : decode b_CH_beginsWord 21 = .ok (.if_icmp .le 9, 3) := by decide +kernel
theorem d_CH_beginsWord_24 : decode b_CH_beginsWord 24 = .ok (.iload_n 0, 1) := by decide +kernel
theorem d_CH_beginsWord_25 : decode b_CH_beginsWord 25 = .ok (.bipush 95, 2) := by decide +kernel
theorem d_CH_beginsWord_27 : decode b_CH_beginsWord 27 = .ok (.if_icmp .ne 7, 3) := by decide +kernel
theorem d_CH_beginsWord_30 : decode b_CH_beginsWord 30 = .ok (.iconst 1, 1) := by decide +kernel
theorem d_CH_beginsWord_31 : decode b_CH_beginsWord 31 = .ok (.goto 4, 3) := by decide +kernel
theorem d_CH_beginsWord_34 : decode b_CH_beginsWord 34 = .ok (.iconst 0, 1) := by decide +kernel
theorem d_CH_beginsWord_35 : decode b_CH_beginsWord 35 = .ok (.ireturn, 1) := by decide +kernel
abbrev b_CH_isBlank : ByteArray := prog_3_method_5_code
abbrev y_CH_isBlank : MethodName := ⟨R_CH, "isBlank", "(I)Z"⟩
abbrev w_CH_isBlank : List Cond := (.code ⟨"TextTerms$Characters", "isBlank", "(I)Z"⟩ prog_3_method_5_code 1 (Option.some Jvm.ClassFile.FieldType.boolean)) :: tt_T
theorem hv_CH_isBlank : y_CH_isBlank.cls = R_CH ∧ y_CH_isBlank.cls ≠ "java/lang/invoke/MethodHandle" ∧ y_CH_isBlank.cls ≠ "java/lang/invoke/VarHandle" ∧ (parseMethodDescriptor y_CH_isBlank.desc).map (fun d => d.parameters.length) = some 1 := by decide +kernel
theorem d_CH_isBlank_0 : decode b_CH_isBlank 0 = .ok (.iload_n 0, 1) := by decide +kernel
theorem d_CH_isBlank_1 : decode b_CH_isBlank 1 = .ok (.bipush 32, 2) := by decide +kernel
theorem d_CH_isBlank_3 : decode b_CH_isBlank 3 = .ok (.if_icmp .eq 21, 3) := by decide +kernel
theorem d_CH_isBlank_6 : decode b_CH_isBlank 6 = .ok (.iload_n 0, 1) := by decide +kernel
theorem d_CH_isBlank_7 : decode b_CH_isBlank 7 = .ok (.bipush 9, 2) := by decide +kernel
theorem d_CH_isBlank_9 : decode b_CH_isBlank 9 = .ok (.if_icmp .eq 15, 3) := by decide +kernel
theorem d_CH_isBlank_12 : decode b_CH_isBlank 12 = .ok (.iload_n 0, 1) := by decide +kernel
theorem d_CH_isBlank_13 : decode b_CH_isBlank 13 = .ok (.bipush 10, 2) := by decide +kernel
theorem d_CH_isBlank_15 : decode b_CH_isBlank 15 = .ok (.if_icmp .eq 9, 3) := by decide +kernel
theorem d_CH_isBlank_18 : decode b_CH_isBlank 18 = .ok (.iload_n 0, 1) := by decide +kernel
theorem d_CH_isBlank_19 : decode b_CH_isBlank 19 = .ok (.bipush 13, 2) := by decide +kernel
theorem d_CH_isBlank_21 : decode b_CH_isBlank 21 = .ok (.if_icmp .ne 7, 3) := by decide +kernel
theorem d_CH_isBlank_24 : decode b_CH_isBlank 24 = .ok (.iconst 1, 1) := by decide +kernel
theorem d_CH_isBlank_25 : decode b_CH_isBlank 25 = .ok (.goto 4, 3) := by decide +kernel
theorem d_CH_isBlank_28 : decode b_CH_isBlank 28 = .ok (.iconst 0, 1) := by decide +kernel
theorem d_CH_isBlank_29 : decode b_CH_isBlank 29 = .ok (.ireturn, 1) := by decide +kernel
abbrev b_CH_isSign : ByteArray := prog_3_method_6_code
abbrev y_CH_isSign : MethodName := ⟨R_CH, "isSign", "(I)Z"⟩
abbrev w_CH_isSign : List Cond := (.code ⟨"TextTerms$Characters", "isSign", "(I)Z"⟩ prog_3_method_6_code 1 (Option.some Jvm.ClassFile.FieldType.boolean)) :: tt_T
theorem hv_CH_isSign : y_CH_isSign.cls = R_CH ∧ y_CH_isSign.cls ≠ "java/lang/invoke/MethodHandle" ∧ y_CH_isSign.cls ≠ "java/lang/invoke/VarHandle" ∧ (parseMethodDescriptor y_CH_isSign.desc).map (fun d => d.parameters.length) = some 1 := by decide +kernel
theorem d_CH_isSign_0 : decode b_CH_isSign 0 = .ok (.iload_n 0, 1) := by decide +kernel
theorem d_CH_isSign_1 : decode b_CH_isSign 1 = .ok (.bipush 123, 2) := by decide +kernel
theorem d_CH_isSign_3 : decode b_CH_isSign 3 = .ok (.if_icmp .eq 27, 3) := by decide +kernel
theorem d_CH_isSign_6 : decode b_CH_isSign 6 = .ok (.iload_n 0, 1) := by decide +kernel
theorem d_CH_isSign_7 : decode b_CH_isSign 7 = .ok (.bipush 125, 2) := by decide +kernel
theorem d_CH_isSign_9 : decode b_CH_isSign 9 = .ok (.if_icmp .eq 21, 3) := by decide +kernel
theorem d_CH_isSign_12 : decode b_CH_isSign 12 = .ok (.iload_n 0, 1) := by decide +kernel
theorem d_CH_isSign_13 : decode b_CH_isSign 13 = .ok (.bipush 40, 2) := by decide +kernel
theorem d_CH_isSign_15 : decode b_CH_isSign 15 = .ok (.if_icmp .eq 15, 3) := by decide +kernel
theorem d_CH_isSign_18 : decode b_CH_isSign 18 = .ok (.iload_n 0, 1) := by decide +kernel
theorem d_CH_isSign_19 : decode b_CH_isSign 19 = .ok (.bipush 41, 2) := by decide +kernel
theorem d_CH_isSign_21 : decode b_CH_isSign 21 = .ok (.if_icmp .eq 9, 3) := by decide +kernel
theorem d_CH_isSign_24 : decode b_CH_isSign 24 = .ok (.iload_n 0, 1) := by decide +kernel
theorem d_CH_isSign_25 : decode b_CH_isSign 25 = .ok (.bipush 59, 2) := by decide +kernel
theorem d_CH_isSign_27 : decode b_CH_isSign 27 = .ok (.if_icmp .ne 7, 3) := by decide +kernel
theorem d_CH_isSign_30 : decode b_CH_isSign 30 = .ok (.iconst 1, 1) := by decide +kernel
theorem d_CH_isSign_31 : decode b_CH_isSign 31 = .ok (.goto 4, 3) := by decide +kernel
theorem d_CH_isSign_34 : decode b_CH_isSign 34 = .ok (.iconst 0, 1) := by decide +kernel
theorem d_CH_isSign_35 : decode b_CH_isSign 35 = .ok (.ireturn, 1) := by decide +kernel
abbrev b_CH_standsInString : ByteArray := prog_3_method_7_code
abbrev y_CH_standsInString : MethodName := ⟨R_CH, "standsInString", "(I)Z"⟩
abbrev w_CH_standsInString : List Cond := (.code ⟨"TextTerms$Characters", "standsInString", "(I)Z"⟩ prog_3_method_7_code 1 (Option.some Jvm.ClassFile.FieldType.boolean)) :: tt_T
theorem hv_CH_standsInString : y_CH_standsInString.cls = R_CH ∧ y_CH_standsInString.cls ≠ "java/lang/invoke/MethodHandle" ∧ y_CH_standsInString.cls ≠ "java/lang/invoke/VarHandle" ∧ (parseMethodDescriptor y_CH_standsInString.desc).map (fun d => d.parameters.length) = some 1 := by decide +kernel
theorem d_CH_standsInString_0 : decode b_CH_standsInString 0 = .ok (.iload_n 0, 1) := by decide +kernel
theorem d_CH_standsInString_1 : decode b_CH_standsInString 1 = .ok (.bipush 32, 2) := by decide +kernel
theorem d_CH_standsInString_3 : decode b_CH_standsInString 3 = .ok (.if_icmp .lt 25, 3) := by decide +kernel
theorem d_CH_standsInString_6 : decode b_CH_standsInString 6 = .ok (.iload_n 0, 1) := by decide +kernel
theorem d_CH_standsInString_7 : decode b_CH_standsInString 7 = .ok (.bipush 126, 2) := by decide +kernel
theorem d_CH_standsInString_9 : decode b_CH_standsInString 9 = .ok (.if_icmp .gt 19, 3) := by decide +kernel
theorem d_CH_standsInString_12 : decode b_CH_standsInString 12 = .ok (.iload_n 0, 1) := by decide +kernel
theorem d_CH_standsInString_13 : decode b_CH_standsInString 13 = .ok (.bipush 34, 2) := by decide +kernel
theorem d_CH_standsInString_15 : decode b_CH_standsInString 15 = .ok (.if_icmp .eq 13, 3) := by decide +kernel
theorem d_CH_standsInString_18 : decode b_CH_standsInString 18 = .ok (.iload_n 0, 1) := by decide +kernel
theorem d_CH_standsInString_19 : decode b_CH_standsInString 19 = .ok (.bipush 92, 2) := by decide +kernel
theorem d_CH_standsInString_21 : decode b_CH_standsInString 21 = .ok (.if_icmp .eq 7, 3) := by decide +kernel
theorem d_CH_standsInString_24 : decode b_CH_standsInString 24 = .ok (.iconst 1, 1) := by decide +kernel
theorem d_CH_standsInString_25 : decode b_CH_standsInString 25 = .ok (.goto 4, 3) := by decide +kernel
theorem d_CH_standsInString_28 : decode b_CH_standsInString 28 = .ok (.iconst 0, 1) := by decide +kernel
theorem d_CH_standsInString_29 : decode b_CH_standsInString 29 = .ok (.ireturn, 1) := by decide +kernel
abbrev b_CH_escaped : ByteArray := prog_3_method_8_code
abbrev y_CH_escaped : MethodName := ⟨R_CH, "escaped", "(I)I"⟩
abbrev w_CH_escaped : List Cond := (.code ⟨"TextTerms$Characters", "escaped", "(I)I"⟩ prog_3_method_8_code 1 (Option.some Jvm.ClassFile.FieldType.int)) :: tt_T
theorem hv_CH_escaped : y_CH_escaped.cls = R_CH ∧ y_CH_escaped.cls ≠ "java/lang/invoke/MethodHandle" ∧ y_CH_escaped.cls ≠ "java/lang/invoke/VarHandle" ∧ (parseMethodDescriptor y_CH_escaped.desc).map (fun d => d.parameters.length) = some 1 := by decide +kernel
theorem d_CH_escaped_0 : decode b_CH_escaped 0 = .ok (.iload_n 0, 1) := by decide +kernel
theorem d_CH_escaped_1 : decode b_CH_escaped 1 = .ok (.bipush 110, 2) := by decide +kernel
theorem d_CH_escaped_3 : decode b_CH_escaped 3 = .ok (.if_icmp .ne 6, 3) := by decide +kernel
theorem d_CH_escaped_6 : decode b_CH_escaped 6 = .ok (.bipush 10, 2) := by decide +kernel
theorem d_CH_escaped_8 : decode b_CH_escaped 8 = .ok (.ireturn, 1) := by decide +kernel
theorem d_CH_escaped_9 : decode b_CH_escaped 9 = .ok (.iload_n 0, 1) := by decide +kernel
theorem d_CH_escaped_10 : decode b_CH_escaped 10 = .ok (.bipush 34, 2) := by decide +kernel
theorem d_CH_escaped_12 : decode b_CH_escaped 12 = .ok (.if_icmp .eq 9, 3) := by decide +kernel
theorem d_CH_escaped_15 : decode b_CH_escaped 15 = .ok (.iload_n 0, 1) := by decide +kernel
theorem d_CH_escaped_16 : decode b_CH_escaped 16 = .ok (.bipush 92, 2) := by decide +kernel
theorem d_CH_escaped_18 : decode b_CH_escaped 18 = .ok (.if_icmp .ne 7, 3) := by decide +kernel
theorem d_CH_escaped_21 : decode b_CH_escaped 21 = .ok (.iload_n 0, 1) := by decide +kernel
theorem d_CH_escaped_22 : decode b_CH_escaped 22 = .ok (.goto 4, 3) := by decide +kernel
theorem d_CH_escaped_25 : decode b_CH_escaped 25 = .ok (.iconst (-1), 1) := by decide +kernel
theorem d_CH_escaped_26 : decode b_CH_escaped 26 = .ok (.ireturn, 1) := by decide +kernel
abbrev b_CH_hexValue : ByteArray := prog_3_method_9_code
abbrev y_CH_hexValue : MethodName := ⟨R_CH, "hexValue", "(I)I"⟩
abbrev w_CH_hexValue : List Cond := (.code ⟨"TextTerms$Characters", "hexValue", "(I)I"⟩ prog_3_method_9_code 1 (Option.some Jvm.ClassFile.FieldType.int)) :: tt_T
theorem hv_CH_hexValue : y_CH_hexValue.cls = R_CH ∧ y_CH_hexValue.cls ≠ "java/lang/invoke/MethodHandle" ∧ y_CH_hexValue.cls ≠ "java/lang/invoke/VarHandle" ∧ (parseMethodDescriptor y_CH_hexValue.desc).map (fun d => d.parameters.length) = some 1 := by decide +kernel
theorem d_CH_hexValue_0 : decode b_CH_hexValue 0 = .ok (.iload_n 0, 1) := by decide +kernel
theorem d_CH_hexValue_1 : decode b_CH_hexValue 1 = .ok (.bipush 48, 2) := by decide +kernel
theorem d_CH_hexValue_3 : decode b_CH_hexValue 3 = .ok (.if_icmp .lt 14, 3) := by decide +kernel
theorem d_CH_hexValue_6 : decode b_CH_hexValue 6 = .ok (.iload_n 0, 1) := by decide +kernel
theorem d_CH_hexValue_7 : decode b_CH_hexValue 7 = .ok (.bipush 57, 2) := by decide +kernel
theorem d_CH_hexValue_9 : decode b_CH_hexValue 9 = .ok (.if_icmp .gt 8, 3) := by decide +kernel
theorem d_CH_hexValue_12 : decode b_CH_hexValue 12 = .ok (.iload_n 0, 1) := by decide +kernel
theorem d_CH_hexValue_13 : decode b_CH_hexValue 13 = .ok (.bipush 48, 2) := by decide +kernel
theorem d_CH_hexValue_15 : decode b_CH_hexValue 15 = .ok (.isub, 1) := by decide +kernel
theorem d_CH_hexValue_16 : decode b_CH_hexValue 16 = .ok (.ireturn, 1) := by decide +kernel
theorem d_CH_hexValue_17 : decode b_CH_hexValue 17 = .ok (.iload_n 0, 1) := by decide +kernel
theorem d_CH_hexValue_18 : decode b_CH_hexValue 18 = .ok (.bipush 97, 2) := by decide +kernel
theorem d_CH_hexValue_20 : decode b_CH_hexValue 20 = .ok (.if_icmp .lt 17, 3) := by decide +kernel
theorem d_CH_hexValue_23 : decode b_CH_hexValue 23 = .ok (.iload_n 0, 1) := by decide +kernel
theorem d_CH_hexValue_24 : decode b_CH_hexValue 24 = .ok (.bipush 102, 2) := by decide +kernel
theorem d_CH_hexValue_26 : decode b_CH_hexValue 26 = .ok (.if_icmp .gt 11, 3) := by decide +kernel
theorem d_CH_hexValue_29 : decode b_CH_hexValue 29 = .ok (.iload_n 0, 1) := by decide +kernel
theorem d_CH_hexValue_30 : decode b_CH_hexValue 30 = .ok (.bipush 97, 2) := by decide +kernel
theorem d_CH_hexValue_32 : decode b_CH_hexValue 32 = .ok (.isub, 1) := by decide +kernel
theorem d_CH_hexValue_33 : decode b_CH_hexValue 33 = .ok (.bipush 10, 2) := by decide +kernel
theorem d_CH_hexValue_35 : decode b_CH_hexValue 35 = .ok (.iadd, 1) := by decide +kernel
theorem d_CH_hexValue_36 : decode b_CH_hexValue 36 = .ok (.ireturn, 1) := by decide +kernel
theorem d_CH_hexValue_37 : decode b_CH_hexValue 37 = .ok (.iload_n 0, 1) := by decide +kernel
theorem d_CH_hexValue_38 : decode b_CH_hexValue 38 = .ok (.bipush 65, 2) := by decide +kernel
theorem d_CH_hexValue_40 : decode b_CH_hexValue 40 = .ok (.if_icmp .lt 19, 3) := by decide +kernel
theorem d_CH_hexValue_43 : decode b_CH_hexValue 43 = .ok (.iload_n 0, 1) := by decide +kernel
theorem d_CH_hexValue_44 : decode b_CH_hexValue 44 = .ok (.bipush 70, 2) := by decide +kernel
theorem d_CH_hexValue_46 : decode b_CH_hexValue 46 = .ok (.if_icmp .gt 13, 3) := by decide +kernel
theorem d_CH_hexValue_49 : decode b_CH_hexValue 49 = .ok (.iload_n 0, 1) := by decide +kernel
theorem d_CH_hexValue_50 : decode b_CH_hexValue 50 = .ok (.bipush 65, 2) := by decide +kernel
theorem d_CH_hexValue_52 : decode b_CH_hexValue 52 = .ok (.isub, 1) := by decide +kernel
theorem d_CH_hexValue_53 : decode b_CH_hexValue 53 = .ok (.bipush 10, 2) := by decide +kernel
theorem d_CH_hexValue_55 : decode b_CH_hexValue 55 = .ok (.iadd, 1) := by decide +kernel
theorem d_CH_hexValue_56 : decode b_CH_hexValue 56 = .ok (.goto 4, 3) := by decide +kernel
theorem d_CH_hexValue_59 : decode b_CH_hexValue 59 = .ok (.iconst (-1), 1) := by decide +kernel
theorem d_CH_hexValue_60 : decode b_CH_hexValue 60 = .ok (.ireturn, 1) := by decide +kernel
