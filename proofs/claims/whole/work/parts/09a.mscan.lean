abbrev rm_MO_isDigit : Room := { frames := 0, cells := 0, slots := 0, locals := 0 }
abbrev q_MO_isDigit (D : va_G) (cI cB cL : ClassId) (x : Int32) : Array Value → State → Outcome → State → Prop := va_Qi (fun r9 (_ : Unit) => r9 = (tt_b (tt_dig x))) (fun _ _ => True) (fun _ => False)
set_option maxHeartbeats 4000000 in
set_option maxRecDepth 100000 in
theorem c_MO_isDigit (l : Launch) (D : va_G) (cI cB cL : ClassId) (x : Int32) : Met l y_MO_isDigit w_MO_isDigit rm_MO_isDigit (va_Pc [.int x] (fun U => va_P D vwCl [] U.heap ∧ va_K D vwCl (tt_ty cI cB cL) U)) (q_MO_isDigit D cI cB cL x) 0 0 (fun _ => False) := by
  refine Met.ofW (cc := b_MO_isDigit) (maxL := 1) (ret := (some .boolean)) (by decide) rfl ?_
  intro p e s m args below meth c s₁ B hml hv
  obtain ⟨rfl, hP, hK⟩ := hv
  have hx := B.exec
  have hb := B.bytes
  have hr := B.returns
  have hts := atoms_spec (ws := w_MO_isDigit) B.pre
  have htT : ∀ w ∈ tt_T, w.before _ s = true := fun w h => hts w (List.mem_cons_of_mem _ h)
  have hown : s.vm.findClass R_MO = some m.cls := findClass_of_methodNamed B.named
  have hlocks := B.notSynchronized
  have hS : va_S (fun _ => False) s.heap s.heap [] := va_S.rf
  have hl := lv_entry ([.int x]) (n := 1) (Nat.le_of_ble_eq_true rfl)
  rw [lg_entry_eq]
  generalize (lg_sl ([.int x]) ++ List.replicate (1 - (lg_sl ([.int x])).length) Slot.unset).toArray = ls at hl ⊢
  have hl : lv_has ls 1 [(0, .int x)] := hl
  have hP : va_P D vwCl [] s.heap := hP
  refine lv_iload_n hx hb d_MO_isDigit_0 rfl (lv_at hl 0 rfl) ?_
  refine lv_bipush (v := 48) hx hb d_MO_isDigit_1 (by decide) ?_
  refine lv_icmp_lt (tgt := 16) hx hb d_MO_isDigit_3 (by decide) (fun c_3 => ?_) (fun c_3 => ?_)
  · skip
    refine lv_iconst (v := 0) hx hb d_MO_isDigit_16 (by decide) ?_
    have o_r : (0 : Int32) = (tt_b (tt_dig x)) := by first | contradiction | (simp [tt_dig, tt_b, c_3] <;> (intros; omega))
    exact W.zret (ty := .boolean) (v := 0) hx hb hr (tt_nz o_r) (fun t ht hW => ⟨⟨_, (), rfl, o_r, trivial⟩, hS.F ht⟩) hS.2.2 d_MO_isDigit_17
  · skip
    refine lv_iload_n hx hb d_MO_isDigit_6 rfl (lv_at hl 0 rfl) ?_
    refine lv_bipush (v := 57) hx hb d_MO_isDigit_7 (by decide) ?_
    refine lv_icmp_gt (tgt := 16) hx hb d_MO_isDigit_9 (by decide) (fun c_9 => ?_) (fun c_9 => ?_)
    · skip
      refine lv_iconst (v := 0) hx hb d_MO_isDigit_16 (by decide) ?_
      have o_r : (0 : Int32) = (tt_b (tt_dig x)) := by first | contradiction | (simp [tt_dig, tt_b, c_3, c_9] <;> (intros; omega))
      exact W.zret (ty := .boolean) (v := 0) hx hb hr (tt_nz o_r) (fun t ht hW => ⟨⟨_, (), rfl, o_r, trivial⟩, hS.F ht⟩) hS.2.2 d_MO_isDigit_17
    · skip
      refine lv_iconst (v := 1) hx hb d_MO_isDigit_12 (by decide) ?_
      refine lv_goto (tgt := 17) hx hb d_MO_isDigit_13 (by decide) ?_
      have o_r : (1 : Int32) = (tt_b (tt_dig x)) := by first | contradiction | (simp [tt_dig, tt_b, c_3, c_9] <;> (intros; omega))
      exact W.zret (ty := .boolean) (v := 1) hx hb hr (tt_nz o_r) (fun t ht hW => ⟨⟨_, (), rfl, o_r, trivial⟩, hS.F ht⟩) hS.2.2 d_MO_isDigit_17
abbrev rm_MO_isLetter : Room := { frames := 0, cells := 0, slots := 0, locals := 0 }
abbrev q_MO_isLetter (D : va_G) (cI cB cL : ClassId) (x : Int32) : Array Value → State → Outcome → State → Prop := va_Qi (fun r9 (_ : Unit) => r9 = (tt_b (tt_let x))) (fun _ _ => True) (fun _ => False)
set_option maxHeartbeats 4000000 in
set_option maxRecDepth 100000 in
theorem c_MO_isLetter (l : Launch) (D : va_G) (cI cB cL : ClassId) (x : Int32) : Met l y_MO_isLetter w_MO_isLetter rm_MO_isLetter (va_Pc [.int x] (fun U => va_P D vwCl [] U.heap ∧ va_K D vwCl (tt_ty cI cB cL) U)) (q_MO_isLetter D cI cB cL x) 0 0 (fun _ => False) := by
  refine Met.ofW (cc := b_MO_isLetter) (maxL := 1) (ret := (some .boolean)) (by decide) rfl ?_
  intro p e s m args below meth c s₁ B hml hv
  obtain ⟨rfl, hP, hK⟩ := hv
  have hx := B.exec
  have hb := B.bytes
  have hr := B.returns
  have hts := atoms_spec (ws := w_MO_isLetter) B.pre
  have htT : ∀ w ∈ tt_T, w.before _ s = true := fun w h => hts w (List.mem_cons_of_mem _ h)
  have hown : s.vm.findClass R_MO = some m.cls := findClass_of_methodNamed B.named
  have hlocks := B.notSynchronized
  have hS : va_S (fun _ => False) s.heap s.heap [] := va_S.rf
  have hl := lv_entry ([.int x]) (n := 1) (Nat.le_of_ble_eq_true rfl)
  rw [lg_entry_eq]
  generalize (lg_sl ([.int x]) ++ List.replicate (1 - (lg_sl ([.int x])).length) Slot.unset).toArray = ls at hl ⊢
  have hl : lv_has ls 1 [(0, .int x)] := hl
  have hP : va_P D vwCl [] s.heap := hP
  refine lv_iload_n hx hb d_MO_isLetter_0 rfl (lv_at hl 0 rfl) ?_
  refine lv_bipush (v := 97) hx hb d_MO_isLetter_1 (by decide) ?_
  refine lv_icmp_lt (tgt := 12) hx hb d_MO_isLetter_3 (by decide) (fun c_3 => ?_) (fun c_3 => ?_)
  · skip
    refine lv_iload_n hx hb d_MO_isLetter_12 rfl (lv_at hl 0 rfl) ?_
    refine lv_bipush (v := 65) hx hb d_MO_isLetter_13 (by decide) ?_
    refine lv_icmp_lt (tgt := 24) hx hb d_MO_isLetter_15 (by decide) (fun c_15 => ?_) (fun c_15 => ?_)
    · skip
      refine lv_iload_n hx hb d_MO_isLetter_24 rfl (lv_at hl 0 rfl) ?_
      refine lv_bipush (v := 95) hx hb d_MO_isLetter_25 (by decide) ?_
      refine lv_icmp_ne (tgt := 34) hx hb d_MO_isLetter_27 (by decide) (fun c_27 => ?_) (fun c_27 => ?_)
      · skip
        refine lv_iconst (v := 0) hx hb d_MO_isLetter_34 (by decide) ?_
        have o_r : (0 : Int32) = (tt_b (tt_let x)) := by first | contradiction | (simp [tt_let, tt_b, c_3, c_15, c_27] <;> (intros; omega))
        exact W.zret (ty := .boolean) (v := 0) hx hb hr (tt_nz o_r) (fun t ht hW => ⟨⟨_, (), rfl, o_r, trivial⟩, hS.F ht⟩) hS.2.2 d_MO_isLetter_35
      · skip
        refine lv_iconst (v := 1) hx hb d_MO_isLetter_30 (by decide) ?_
        refine lv_goto (tgt := 35) hx hb d_MO_isLetter_31 (by decide) ?_
        have o_r : (1 : Int32) = (tt_b (tt_let x)) := by first | contradiction | (simp [tt_let, tt_b, c_3, c_15, eq_true c_27] <;> (intros; omega))
        exact W.zret (ty := .boolean) (v := 1) hx hb hr (tt_nz o_r) (fun t ht hW => ⟨⟨_, (), rfl, o_r, trivial⟩, hS.F ht⟩) hS.2.2 d_MO_isLetter_35
    · skip
      refine lv_iload_n hx hb d_MO_isLetter_18 rfl (lv_at hl 0 rfl) ?_
      refine lv_bipush (v := 90) hx hb d_MO_isLetter_19 (by decide) ?_
      refine lv_icmp_le (tgt := 30) hx hb d_MO_isLetter_21 (by decide) (fun c_21 => ?_) (fun c_21 => ?_)
      · skip
        refine lv_iconst (v := 1) hx hb d_MO_isLetter_30 (by decide) ?_
        refine lv_goto (tgt := 35) hx hb d_MO_isLetter_31 (by decide) ?_
        have o_r : (1 : Int32) = (tt_b (tt_let x)) := by first | contradiction | (simp [tt_let, tt_b, c_3, c_15, c_21] <;> (intros; omega))
        exact W.zret (ty := .boolean) (v := 1) hx hb hr (tt_nz o_r) (fun t ht hW => ⟨⟨_, (), rfl, o_r, trivial⟩, hS.F ht⟩) hS.2.2 d_MO_isLetter_35
      · skip
        refine lv_iload_n hx hb d_MO_isLetter_24 rfl (lv_at hl 0 rfl) ?_
        refine lv_bipush (v := 95) hx hb d_MO_isLetter_25 (by decide) ?_
        refine lv_icmp_ne (tgt := 34) hx hb d_MO_isLetter_27 (by decide) (fun c_27 => ?_) (fun c_27 => ?_)
        · skip
          refine lv_iconst (v := 0) hx hb d_MO_isLetter_34 (by decide) ?_
          have o_r : (0 : Int32) = (tt_b (tt_let x)) := by first | contradiction | (simp [tt_let, tt_b, c_3, c_15, c_21, c_27] <;> (intros; omega))
          exact W.zret (ty := .boolean) (v := 0) hx hb hr (tt_nz o_r) (fun t ht hW => ⟨⟨_, (), rfl, o_r, trivial⟩, hS.F ht⟩) hS.2.2 d_MO_isLetter_35
        · skip
          refine lv_iconst (v := 1) hx hb d_MO_isLetter_30 (by decide) ?_
          refine lv_goto (tgt := 35) hx hb d_MO_isLetter_31 (by decide) ?_
          have o_r : (1 : Int32) = (tt_b (tt_let x)) := by first | contradiction | (simp [tt_let, tt_b, c_3, c_15, c_21, eq_true c_27] <;> (intros; omega))
          exact W.zret (ty := .boolean) (v := 1) hx hb hr (tt_nz o_r) (fun t ht hW => ⟨⟨_, (), rfl, o_r, trivial⟩, hS.F ht⟩) hS.2.2 d_MO_isLetter_35
  · skip
    refine lv_iload_n hx hb d_MO_isLetter_6 rfl (lv_at hl 0 rfl) ?_
    refine lv_bipush (v := 122) hx hb d_MO_isLetter_7 (by decide) ?_
    refine lv_icmp_le (tgt := 30) hx hb d_MO_isLetter_9 (by decide) (fun c_9 => ?_) (fun c_9 => ?_)
    · skip
      refine lv_iconst (v := 1) hx hb d_MO_isLetter_30 (by decide) ?_
      refine lv_goto (tgt := 35) hx hb d_MO_isLetter_31 (by decide) ?_
      have o_r : (1 : Int32) = (tt_b (tt_let x)) := by first | contradiction | (simp [tt_let, tt_b, c_3, c_9] <;> (intros; omega))
      exact W.zret (ty := .boolean) (v := 1) hx hb hr (tt_nz o_r) (fun t ht hW => ⟨⟨_, (), rfl, o_r, trivial⟩, hS.F ht⟩) hS.2.2 d_MO_isLetter_35
    · skip
      refine lv_iload_n hx hb d_MO_isLetter_12 rfl (lv_at hl 0 rfl) ?_
      refine lv_bipush (v := 65) hx hb d_MO_isLetter_13 (by decide) ?_
      refine lv_icmp_lt (tgt := 24) hx hb d_MO_isLetter_15 (by decide) (fun c_15 => ?_) (fun c_15 => ?_)
      · skip
        refine lv_iload_n hx hb d_MO_isLetter_24 rfl (lv_at hl 0 rfl) ?_
        refine lv_bipush (v := 95) hx hb d_MO_isLetter_25 (by decide) ?_
        refine lv_icmp_ne (tgt := 34) hx hb d_MO_isLetter_27 (by decide) (fun c_27 => ?_) (fun c_27 => ?_)
        · skip
          refine lv_iconst (v := 0) hx hb d_MO_isLetter_34 (by decide) ?_
          have o_r : (0 : Int32) = (tt_b (tt_let x)) := by first | contradiction | (simp [tt_let, tt_b, c_3, c_9, c_15, c_27] <;> (intros; omega))
          exact W.zret (ty := .boolean) (v := 0) hx hb hr (tt_nz o_r) (fun t ht hW => ⟨⟨_, (), rfl, o_r, trivial⟩, hS.F ht⟩) hS.2.2 d_MO_isLetter_35
        · skip
          refine lv_iconst (v := 1) hx hb d_MO_isLetter_30 (by decide) ?_
          refine lv_goto (tgt := 35) hx hb d_MO_isLetter_31 (by decide) ?_
          have o_r : (1 : Int32) = (tt_b (tt_let x)) := by first | contradiction | (simp [tt_let, tt_b, c_3, c_9, c_15, eq_true c_27] <;> (intros; omega))
          exact W.zret (ty := .boolean) (v := 1) hx hb hr (tt_nz o_r) (fun t ht hW => ⟨⟨_, (), rfl, o_r, trivial⟩, hS.F ht⟩) hS.2.2 d_MO_isLetter_35
      · skip
        refine lv_iload_n hx hb d_MO_isLetter_18 rfl (lv_at hl 0 rfl) ?_
        refine lv_bipush (v := 90) hx hb d_MO_isLetter_19 (by decide) ?_
        refine lv_icmp_le (tgt := 30) hx hb d_MO_isLetter_21 (by decide) (fun c_21 => ?_) (fun c_21 => ?_)
        · skip
          refine lv_iconst (v := 1) hx hb d_MO_isLetter_30 (by decide) ?_
          refine lv_goto (tgt := 35) hx hb d_MO_isLetter_31 (by decide) ?_
          have o_r : (1 : Int32) = (tt_b (tt_let x)) := by first | contradiction | (simp [tt_let, tt_b, c_3, c_9, c_15, c_21] <;> (intros; omega))
          exact W.zret (ty := .boolean) (v := 1) hx hb hr (tt_nz o_r) (fun t ht hW => ⟨⟨_, (), rfl, o_r, trivial⟩, hS.F ht⟩) hS.2.2 d_MO_isLetter_35
        · skip
          refine lv_iload_n hx hb d_MO_isLetter_24 rfl (lv_at hl 0 rfl) ?_
          refine lv_bipush (v := 95) hx hb d_MO_isLetter_25 (by decide) ?_
          refine lv_icmp_ne (tgt := 34) hx hb d_MO_isLetter_27 (by decide) (fun c_27 => ?_) (fun c_27 => ?_)
          · skip
            refine lv_iconst (v := 0) hx hb d_MO_isLetter_34 (by decide) ?_
            have o_r : (0 : Int32) = (tt_b (tt_let x)) := by first | contradiction | (simp [tt_let, tt_b, c_3, c_9, c_15, c_21, c_27] <;> (intros; omega))
            exact W.zret (ty := .boolean) (v := 0) hx hb hr (tt_nz o_r) (fun t ht hW => ⟨⟨_, (), rfl, o_r, trivial⟩, hS.F ht⟩) hS.2.2 d_MO_isLetter_35
          · skip
            refine lv_iconst (v := 1) hx hb d_MO_isLetter_30 (by decide) ?_
            refine lv_goto (tgt := 35) hx hb d_MO_isLetter_31 (by decide) ?_
            have o_r : (1 : Int32) = (tt_b (tt_let x)) := by first | contradiction | (simp [tt_let, tt_b, c_3, c_9, c_15, c_21, eq_true c_27] <;> (intros; omega))
            exact W.zret (ty := .boolean) (v := 1) hx hb hr (tt_nz o_r) (fun t ht hW => ⟨⟨_, (), rfl, o_r, trivial⟩, hS.F ht⟩) hS.2.2 d_MO_isLetter_35
abbrev rm_MO_hex : Room := { frames := 1, cells := 0, slots := 0, locals := 20 }
abbrev q_MO_hex (D : va_G) (cI cB cL : ClassId) (x : Int32) : Array Value → State → Outcome → State → Prop := va_Qi (fun r9 (_ : Unit) => r9 = (tt_hex x)) (fun _ _ => True) (fun _ => False)
set_option maxHeartbeats 4000000 in
set_option maxRecDepth 100000 in
theorem c_MO_hex (l : Launch) (D : va_G) (cI cB cL : ClassId) (x : Int32) : Met l y_MO_hex w_MO_hex rm_MO_hex (va_Pc [.int x] (fun U => va_P D vwCl [] U.heap ∧ va_K D vwCl (tt_ty cI cB cL) U)) (q_MO_hex D cI cB cL x) 0 0 (fun _ => False) := by
  refine Met.ofW (cc := b_MO_hex) (maxL := 1) (ret := (some .int)) (by decide) rfl ?_
  intro p e s m args below meth c s₁ B hml hv
  obtain ⟨rfl, hP, hK⟩ := hv
  have hx := B.exec
  have hb := B.bytes
  have hr := B.returns
  have hts := atoms_spec (ws := w_MO_hex) B.pre
  have htT : ∀ w ∈ tt_T, w.before _ s = true := fun w h => hts w (List.mem_cons_of_mem _ h)
  have hown : s.vm.findClass R_MO = some m.cls := findClass_of_methodNamed B.named
  have hlocks := B.notSynchronized
  have hS : va_S (fun _ => False) s.heap s.heap [] := va_S.rf
  have hl := lv_entry ([.int x]) (n := 1) (Nat.le_of_ble_eq_true rfl)
  rw [lg_entry_eq]
  generalize (lg_sl ([.int x]) ++ List.replicate (1 - (lg_sl ([.int x])).length) Slot.unset).toArray = ls at hl ⊢
  have hl : lv_has ls 1 [(0, .int x)] := hl
  have hP : va_P D vwCl [] s.heap := hP
  refine lv_iload_n hx hb d_MO_hex_0 rfl (lv_at hl 0 rfl) ?_
  refine tt_roI (va_runS (As := [.int x]) (rest := []) ⟨hx, hb, hml, hown, hts⟩ (c_MO_isDigit l D cI cB cL x) (cwS 1 hts (tt_gS k_729 k_730 k_7 k_731) rfl rfl rfl hv_MO_isDigit ⟨Nat.le_of_ble_eq_true rfl, Nat.le_of_ble_eq_true rfl⟩) (tt_ropreS (w := []) hK hP [] rfl) rfl rfl hl.1 rfl (lv_room (Nat.le_of_ble_eq_true rfl)) d_MO_hex_1 ⟨Nat.zero_le _, Nat.zero_le _⟩) hS hP (fun H locs hP hS => ?_)
  refine lv_if_eq (tgt := 14) hx hb d_MO_hex_4 (by decide) (fun c_4 => ?_) (fun c_4 => ?_)
  · have c_4 := tt_b0.mp c_4
    refine lv_iload_n hx hb d_MO_hex_14 rfl (lv_at hl 0 rfl) ?_
    refine lv_bipush (v := 97) hx hb d_MO_hex_15 (by decide) ?_
    refine lv_icmp_lt (tgt := 36) hx hb d_MO_hex_17 (by decide) (fun c_17 => ?_) (fun c_17 => ?_)
    · skip
      refine lv_iload_n hx hb d_MO_hex_36 rfl (lv_at hl 0 rfl) ?_
      refine lv_bipush (v := 65) hx hb d_MO_hex_37 (by decide) ?_
      refine lv_icmp_lt (tgt := 58) hx hb d_MO_hex_39 (by decide) (fun c_39 => ?_) (fun c_39 => ?_)
      · skip
        refine lv_iconst (v := (-1)) hx hb d_MO_hex_58 (by decide) ?_
        have o_r : ((-1) : Int32) = (tt_hex x) := by first | (have q := tt_dig_t c_4; simp [tt_hex, q, c_4, c_17, c_39]; done) | (have q := tt_dig_f c_4; simp only [tt_hex, if_neg q]; simp [c_4, c_17, c_39])
        exact W.iret (v := (-1)) hx hb hr (fun t ht hW => ⟨⟨_, (), rfl, o_r, trivial⟩, hS.F ht⟩) hS.2.2 d_MO_hex_59
      · skip
        refine lv_iload_n hx hb d_MO_hex_42 rfl (lv_at hl 0 rfl) ?_
        refine lv_bipush (v := 70) hx hb d_MO_hex_43 (by decide) ?_
        refine lv_icmp_gt (tgt := 58) hx hb d_MO_hex_45 (by decide) (fun c_45 => ?_) (fun c_45 => ?_)
        · skip
          refine lv_iconst (v := (-1)) hx hb d_MO_hex_58 (by decide) ?_
          have o_r : ((-1) : Int32) = (tt_hex x) := by first | (have q := tt_dig_t c_4; simp [tt_hex, q, c_4, c_17, c_39, c_45]; done) | (have q := tt_dig_f c_4; simp only [tt_hex, if_neg q]; simp [c_4, c_17, c_39, c_45])
          exact W.iret (v := (-1)) hx hb hr (fun t ht hW => ⟨⟨_, (), rfl, o_r, trivial⟩, hS.F ht⟩) hS.2.2 d_MO_hex_59
        · skip
          refine lv_iload_n hx hb d_MO_hex_48 rfl (lv_at hl 0 rfl) ?_
          refine lv_bipush (v := 65) hx hb d_MO_hex_49 (by decide) ?_
          refine lv_isub hx hb d_MO_hex_51 ?_
          refine lv_bipush (v := 10) hx hb d_MO_hex_52 (by decide) ?_
          refine lv_iadd hx hb d_MO_hex_54 ?_
          refine lv_goto (tgt := 59) hx hb d_MO_hex_55 (by decide) ?_
          have o_r : ((x - 65) + 10) = (tt_hex x) := by first | (have q := tt_dig_t c_4; simp [tt_hex, q, c_4, c_17, c_39, c_45]; done) | (have q := tt_dig_f c_4; simp only [tt_hex, if_neg q]; simp [c_4, c_17, c_39, c_45])
          exact W.iret (v := (x - 65) + 10) hx hb hr (fun t ht hW => ⟨⟨_, (), rfl, o_r, trivial⟩, hS.F ht⟩) hS.2.2 d_MO_hex_59
    · skip
      refine lv_iload_n hx hb d_MO_hex_20 rfl (lv_at hl 0 rfl) ?_
      refine lv_bipush (v := 102) hx hb d_MO_hex_21 (by decide) ?_
      refine lv_icmp_gt (tgt := 36) hx hb d_MO_hex_23 (by decide) (fun c_23 => ?_) (fun c_23 => ?_)
      · skip
        refine lv_iload_n hx hb d_MO_hex_36 rfl (lv_at hl 0 rfl) ?_
        refine lv_bipush (v := 65) hx hb d_MO_hex_37 (by decide) ?_
        refine lv_icmp_lt (tgt := 58) hx hb d_MO_hex_39 (by decide) (fun c_39 => ?_) (fun c_39 => ?_)
        · skip
          refine lv_iconst (v := (-1)) hx hb d_MO_hex_58 (by decide) ?_
          have o_r : ((-1) : Int32) = (tt_hex x) := by first | (have q := tt_dig_t c_4; simp [tt_hex, q, c_4, c_17, c_23, c_39]; done) | (have q := tt_dig_f c_4; simp only [tt_hex, if_neg q]; simp [c_4, c_17, c_23, c_39])
          exact W.iret (v := (-1)) hx hb hr (fun t ht hW => ⟨⟨_, (), rfl, o_r, trivial⟩, hS.F ht⟩) hS.2.2 d_MO_hex_59
        · skip
          refine lv_iload_n hx hb d_MO_hex_42 rfl (lv_at hl 0 rfl) ?_
          refine lv_bipush (v := 70) hx hb d_MO_hex_43 (by decide) ?_
          refine lv_icmp_gt (tgt := 58) hx hb d_MO_hex_45 (by decide) (fun c_45 => ?_) (fun c_45 => ?_)
          · skip
            refine lv_iconst (v := (-1)) hx hb d_MO_hex_58 (by decide) ?_
            have o_r : ((-1) : Int32) = (tt_hex x) := by first | (have q := tt_dig_t c_4; simp [tt_hex, q, c_4, c_17, c_23, c_39, c_45]; done) | (have q := tt_dig_f c_4; simp only [tt_hex, if_neg q]; simp [c_4, c_17, c_23, c_39, c_45])
            exact W.iret (v := (-1)) hx hb hr (fun t ht hW => ⟨⟨_, (), rfl, o_r, trivial⟩, hS.F ht⟩) hS.2.2 d_MO_hex_59
          · skip
            refine lv_iload_n hx hb d_MO_hex_48 rfl (lv_at hl 0 rfl) ?_
            refine lv_bipush (v := 65) hx hb d_MO_hex_49 (by decide) ?_
            refine lv_isub hx hb d_MO_hex_51 ?_
            refine lv_bipush (v := 10) hx hb d_MO_hex_52 (by decide) ?_
            refine lv_iadd hx hb d_MO_hex_54 ?_
            refine lv_goto (tgt := 59) hx hb d_MO_hex_55 (by decide) ?_
            have o_r : ((x - 65) + 10) = (tt_hex x) := by first | (have q := tt_dig_t c_4; simp [tt_hex, q, c_4, c_17, c_23, c_39, c_45]; done) | (have q := tt_dig_f c_4; simp only [tt_hex, if_neg q]; simp [c_4, c_17, c_23, c_39, c_45])
            exact W.iret (v := (x - 65) + 10) hx hb hr (fun t ht hW => ⟨⟨_, (), rfl, o_r, trivial⟩, hS.F ht⟩) hS.2.2 d_MO_hex_59
      · skip
        refine lv_iload_n hx hb d_MO_hex_26 rfl (lv_at hl 0 rfl) ?_
        refine lv_bipush (v := 97) hx hb d_MO_hex_27 (by decide) ?_
        refine lv_isub hx hb d_MO_hex_29 ?_
        refine lv_bipush (v := 10) hx hb d_MO_hex_30 (by decide) ?_
        refine lv_iadd hx hb d_MO_hex_32 ?_
        refine lv_goto (tgt := 59) hx hb d_MO_hex_33 (by decide) ?_
        have o_r : ((x - 97) + 10) = (tt_hex x) := by first | (have q := tt_dig_t c_4; simp [tt_hex, q, c_4, c_17, c_23]; done) | (have q := tt_dig_f c_4; simp only [tt_hex, if_neg q]; simp [c_4, c_17, c_23])
        exact W.iret (v := (x - 97) + 10) hx hb hr (fun t ht hW => ⟨⟨_, (), rfl, o_r, trivial⟩, hS.F ht⟩) hS.2.2 d_MO_hex_59
  · have c_4 := tt_bn0.mp c_4
    refine lv_iload_n hx hb d_MO_hex_7 rfl (lv_at hl 0 rfl) ?_
    refine lv_bipush (v := 48) hx hb d_MO_hex_8 (by decide) ?_
    refine lv_isub hx hb d_MO_hex_10 ?_
    refine lv_goto (tgt := 59) hx hb d_MO_hex_11 (by decide) ?_
    have o_r : (x - 48) = (tt_hex x) := by first | (have q := tt_dig_t c_4; simp [tt_hex, q, c_4]; done) | (have q := tt_dig_f c_4; simp only [tt_hex, if_neg q]; simp [c_4])
    exact W.iret (v := x - 48) hx hb hr (fun t ht hW => ⟨⟨_, (), rfl, o_r, trivial⟩, hS.F ht⟩) hS.2.2 d_MO_hex_59
abbrev rm_MO_look : Room := { frames := 0, cells := 0, slots := 0, locals := 0 }
abbrev q_MO_look (D : va_G) (cI cB cL : ClassId) (am : Nat → Nat) (ft : Int32) (cn tn mc : Nat) (pl tk : Int32) (fr tj dn : Nat) (f : Nat → Int32) (x : Nat) : Array Value → State → Outcome → State → Prop := va_Qi (fun r9 (_ : Unit) => r9 = (tt_ch f tn x)) (fun _ _ => True) (fun _ => False)
set_option maxHeartbeats 4000000 in
set_option maxRecDepth 100000 in
theorem c_MO_look (l : Launch) (D : va_G) (cI cB cL : ClassId) (am : Nat → Nat) (ft : Int32) (cn tn mc : Nat) (pl tk : Int32) (fr tj dn : Nat) (f : Nat → Int32) (x : Nat) (ht : tn ≤ 16384) (hx0 : x < 2147483648) : Met l y_MO_look w_MO_look rm_MO_look (va_Pc [.ref (am 0), .int (nI x)] (fun U => va_P D vwCl [(am 0, .inr (6, [.int ft, .ref (am 1), .int (nI cn), .ref (am 2), .int (nI tn), .ref (am 3), .ref (am 4), .ref (am 5), .ref (am 6), .ref (am 7), .ref (am 8), .int (nI mc), .int pl, .int tk, .int (nI fr), .int (nI tj), .ref (am 9), .int (nI dn)])), (am 2, .inl (cB, 16384, .inl f))] U.heap ∧ va_K D vwCl (tt_ty cI cB cL) U)) (q_MO_look D cI cB cL am ft cn tn mc pl tk fr tj dn f x) 0 0 (fun _ => False) := by
  refine Met.ofW (cc := b_MO_look) (maxL := 2) (ret := (some .int)) (by decide) rfl ?_
  intro p e s m args below meth c s₁ B hml hv
  obtain ⟨rfl, hP, hK⟩ := hv
  have hx := B.exec
  have hb := B.bytes
  have hr := B.returns
  have hts := atoms_spec (ws := w_MO_look) B.pre
  have htT : ∀ w ∈ tt_T, w.before _ s = true := fun w h => hts w (List.mem_cons_of_mem _ h)
  have hown : s.vm.findClass R_MO = some m.cls := findClass_of_methodNamed B.named
  have hlocks := B.notSynchronized
  have hS : va_S (fun _ => False) s.heap s.heap [] := va_S.rf
  have hl := lv_entry ([.ref (am 0), .int (nI x)]) (n := 2) (Nat.le_of_ble_eq_true rfl)
  rw [lg_entry_eq]
  generalize (lg_sl ([.ref (am 0), .int (nI x)]) ++ List.replicate (2 - (lg_sl ([.ref (am 0), .int (nI x)])).length) Slot.unset).toArray = ls at hl ⊢
  have hl : lv_has ls 2 [(0, .ref (am 0)), (1, .int (nI x))] := hl
  have hP : va_P D vwCl [(am 0, .inr (6, [.int ft, .ref (am 1), .int (nI cn), .ref (am 2), .int (nI tn), .ref (am 3), .ref (am 4), .ref (am 5), .ref (am 6), .ref (am 7), .ref (am 8), .int (nI mc), .int pl, .int tk, .int (nI fr), .int (nI tj), .ref (am 9), .int (nI dn)])), (am 2, .inl (cB, 16384, .inl f))] s.heap := hP
  refine lv_iload_n hx hb d_MO_look_0 rfl (lv_at hl 1 rfl) ?_
  refine lv_aload_n hx hb d_MO_look_1 rfl (lv_at hl 0 rfl) ?_
  refine va_get (D := D) (ci := 6) (v := .int (nI tn)) (C := R_MO) (T := F_MO) (N := 18) hx hb htT i_MO hown hK hP 0 rfl rfl 4 (by decide) (htT _ k_639) (fun _ h9 => h9) rfl d_MO_look_2 ?_
  refine lv_icmp_ge (tgt := 21) hx hb d_MO_look_5 (by decide) (fun c_5 => ?_) (fun c_5 => ?_)
  · have c_5 : tn ≤ x := (nI_leI (a := tn) (b := x) (by omega) (by omega)).mp c_5
    refine lv_iconst (v := (-1)) hx hb d_MO_look_21 (by decide) ?_
    have o_r : ((-1) : Int32) = (tt_ch f tn x) := by first | contradiction | (simp [tt_ch, tt_b, c_5, Nat.not_lt.mpr c_5] <;> (intros; omega))
    exact W.iret (v := (-1)) hx hb hr (fun t ht hW => ⟨⟨_, (), rfl, o_r, trivial⟩, hS.F ht⟩) hS.2.2 d_MO_look_22
  · have c_5 : ¬ tn ≤ x := fun z9 => c_5 ((nI_leI (a := tn) (b := x) (by omega) (by omega)).mpr z9)
    have c_5 := Nat.not_le.mp c_5
    refine lv_aload_n hx hb d_MO_look_8 rfl (lv_at hl 0 rfl) ?_
    refine va_get (D := D) (ci := 6) (v := .ref (am 2)) (C := R_MO) (T := F_MO) (N := 18) hx hb htT i_MO hown hK hP 0 rfl rfl 3 (by decide) (htT _ k_638) (fun _ h9 => h9) rfl d_MO_look_9 ?_
    refine lv_iload_n hx hb d_MO_look_12 rfl (lv_at hl 1 rfl) ?_
    refine va_bald (D := D) hx hb hK hP 1 1 rfl rfl (vp_in_nI (by omega) (by omega)) d_MO_look_13 ?_
    refine tt_ti (show f (nI x).toNatClampNeg = f x from by rw [nI_clamp (by omega)]) ?_
    refine lv_sipush (v := 255) hx hb d_MO_look_14 (by decide) ?_
    refine lv_iand hx hb d_MO_look_17 ?_
    refine lv_goto (tgt := 22) hx hb d_MO_look_18 (by decide) ?_
    have o_r : ((f x) &&& 255) = (tt_ch f tn x) := by first | contradiction | (simp [tt_ch, tt_b, c_5, Nat.not_le.mpr c_5] <;> (intros; omega))
    exact W.iret (v := (f x) &&& 255) hx hb hr (fun t ht hW => ⟨⟨_, (), rfl, o_r, trivial⟩, hS.F ht⟩) hS.2.2 d_MO_look_22
abbrev rm_MO_named : Room := { frames := 1, cells := 0, slots := 0, locals := 21 }
abbrev q_MO_named (D : va_G) (cI cB cL : ClassId) (am : Nat → Nat) (ft : Int32) (cn tn mc : Nat) (pl tk : Int32) (fr tj dn : Nat) (f : Nat → Int32) (x M : Nat) : Array Value → State → Outcome → State → Prop := va_Qi (fun r9 (_ : Unit) => r9 = (nI (tt_sw (fun j => tt_wd (tt_ch f tn j)) M x))) (fun _ _ => True) (fun _ => False)
set_option maxHeartbeats 4000000 in
set_option maxRecDepth 100000 in
theorem c_MO_named (l : Launch) (D : va_G) (cI cB cL : ClassId) (am : Nat → Nat) (ft : Int32) (cn tn mc : Nat) (pl tk : Int32) (fr tj dn : Nat) (f : Nat → Int32) (x M : Nat) (ht : tn ≤ 16384) (hx0 : x < 1073741824) (hM : M < 1073741824) : Met l y_MO_named w_MO_named rm_MO_named (va_Pc [.ref (am 0), .int (nI x), .int (nI M)] (fun U => va_P D vwCl [(am 0, .inr (6, [.int ft, .ref (am 1), .int (nI cn), .ref (am 2), .int (nI tn), .ref (am 3), .ref (am 4), .ref (am 5), .ref (am 6), .ref (am 7), .ref (am 8), .int (nI mc), .int pl, .int tk, .int (nI fr), .int (nI tj), .ref (am 9), .int (nI dn)])), (am 2, .inl (cB, 16384, .inl f))] U.heap ∧ va_K D vwCl (tt_ty cI cB cL) U)) (q_MO_named D cI cB cL am ft cn tn mc pl tk fr tj dn f x M) 0 0 (fun _ => False) := by
  refine Met.ofW (cc := b_MO_named) (maxL := 4) (ret := (some .int)) (by decide) rfl ?_
  intro p e s m args below meth c s₁ B hml hv
  obtain ⟨rfl, hP, hK⟩ := hv
  have hx := B.exec
  have hb := B.bytes
  have hr := B.returns
  have hts := atoms_spec (ws := w_MO_named) B.pre
  have htT : ∀ w ∈ tt_T, w.before _ s = true := fun w h => hts w (List.mem_cons_of_mem _ h)
  have hown : s.vm.findClass R_MO = some m.cls := findClass_of_methodNamed B.named
  have hlocks := B.notSynchronized
  have hS : va_S (fun _ => False) s.heap s.heap [] := va_S.rf
  have hl := lv_entry ([.ref (am 0), .int (nI x), .int (nI M)]) (n := 4) (Nat.le_of_ble_eq_true rfl)
  rw [lg_entry_eq]
  generalize (lg_sl ([.ref (am 0), .int (nI x), .int (nI M)]) ++ List.replicate (4 - (lg_sl ([.ref (am 0), .int (nI x), .int (nI M)])).length) Slot.unset).toArray = ls at hl ⊢
  have hl : lv_has ls 4 [(0, .ref (am 0)), (1, .int (nI x)), (2, .int (nI M))] := hl
  have hP : va_P D vwCl [(am 0, .inr (6, [.int ft, .ref (am 1), .int (nI cn), .ref (am 2), .int (nI tn), .ref (am 3), .ref (am 4), .ref (am 5), .ref (am 6), .ref (am 7), .ref (am 8), .int (nI mc), .int pl, .int tk, .int (nI fr), .int (nI tj), .ref (am 9), .int (nI dn)])), (am 2, .inl (cB, 16384, .inl f))] s.heap := hP
  refine lv_iload_n hx hb d_MO_named_0 rfl (lv_at hl 1 rfl) ?_
  refine lv_istore_n (lv' := [(3, .int (nI x)), (0, .ref (am 0)), (1, .int (nI x)), (2, .int (nI M))]) hx hb d_MO_named_1 rfl hl (by decide) rfl (fun ls hl => ?_)
  have cut_2 : ∀ (k9 : Nat) (j : Nat) (_ : M - j < k9) (hj : j ≤ max M x) (he : tt_sw (fun j => tt_wd (tt_ch f tn j)) M j = tt_sw (fun j => tt_wd (tt_ch f tn j)) M x) (H : Heap) (locs : List Loc), va_P D vwCl [(am 0, .inr (6, [.int ft, .ref (am 1), .int (nI cn), .ref (am 2), .int (nI tn), .ref (am 3), .ref (am 4), .ref (am 5), .ref (am 6), .ref (am 7), .ref (am 8), .int (nI mc), .int pl, .int tk, .int (nI fr), .int (nI tj), .ref (am 9), .int (nI dn)])), (am 2, .inl (cB, 16384, .inl f))] H → va_S (fun _ => False) s.heap H locs → ∀ ls : Array Slot, lv_has ls 4 [(0, .ref (am 0)), (2, .int (nI M)), (3, .int (nI j))] → W p l e (headSpec w_MO_named rm_MO_named).room s m ([.ref (am 0), .int (nI x), .int (nI M)] : List Value).toArray below meth c H locs 0 0 (MQ below (q_MO_named D cI cB cL am ft cn tn mc pl tk fr tj dn f x M) ([.ref (am 0), .int (nI x), .int (nI M)] : List Value).toArray s 0 0 (fun _ => False)) (F0 m 2 ls []) := by
    intro k9
    induction k9 with
    | zero => intro j h9; exact absurd h9 (Nat.not_lt_zero _)
    | succ k9 ih_2 =>
      intro j h9 hj he H locs hP hS ls hl
      refine lv_iload_n hx hb d_MO_named_2 rfl (lv_at hl 2 rfl) ?_
      refine lv_iload_n hx hb d_MO_named_3 rfl (lv_at hl 1 rfl) ?_
      refine lv_icmp_ge (tgt := 35) hx hb d_MO_named_4 (by decide) (fun c_4 => ?_) (fun c_4 => ?_)
      · have c_4 : M ≤ j := (nI_leI (a := M) (b := j) (by omega) (by omega)).mp c_4
        refine lv_iload_n hx hb d_MO_named_35 rfl (lv_at hl 2 rfl) ?_
        have o_r : (nI j) = (nI (tt_sw (fun j => tt_wd (tt_ch f tn j)) M x)) := by rw [← he, tt_sw_out (fun z => by first | omega | simp_all [tt_wd])]
        exact W.iret (v := nI j) hx hb hr (fun t ht hW => ⟨⟨_, (), rfl, o_r, trivial⟩, hS.F ht⟩) hS.2.2 d_MO_named_36
      · have c_4 : ¬ M ≤ j := fun z9 => c_4 ((nI_leI (a := M) (b := j) (by omega) (by omega)).mpr z9)
        have c_4 := Nat.not_le.mp c_4
        refine lv_aload_n hx hb d_MO_named_7 rfl (lv_at hl 0 rfl) ?_
        refine lv_iload_n hx hb d_MO_named_8 rfl (lv_at hl 2 rfl) ?_
        refine tt_roI (va_runV (As := [.int (nI j)]) (rest := []) ⟨hx, hb, hml, hown, hts⟩ (c_MO_look l D cI cB cL am ft cn tn mc pl tk fr tj dn f j (by omega) (by omega)) (cwV 1 hts (tt_gV k_718 k_720 ks_22 k_7 k_721) rfl rfl rfl hv_MO_look ⟨Nat.le_of_ble_eq_true rfl, Nat.le_of_ble_eq_true rfl⟩) (tt_ropreV (w := [(am 0, .inr (6, [.int ft, .ref (am 1), .int (nI cn), .ref (am 2), .int (nI tn), .ref (am 3), .ref (am 4), .ref (am 5), .ref (am 6), .ref (am 7), .ref (am 8), .int (nI mc), .int pl, .int tk, .int (nI fr), .int (nI tj), .ref (am 9), .int (nI dn)])), (am 2, .inl (cB, 16384, .inl f))]) hK hP [0, 1] rfl (va_recv hK hP (ci := 6) (q0 := 0) rfl rfl)) rfl rfl hl.1 rfl (lv_room (Nat.le_of_ble_eq_true rfl)) d_MO_named_9 ⟨Nat.zero_le _, Nat.zero_le _⟩) hS hP (fun H locs hP hS => ?_)
        refine tt_roI (va_runS (As := [.int (tt_ch f tn j)]) (rest := []) ⟨hx, hb, hml, hown, hts⟩ (c_MO_isLetter l D cI cB cL (tt_ch f tn j)) (cwS 1 hts (tt_gS k_740 k_741 k_7 k_742) rfl rfl rfl hv_MO_isLetter ⟨Nat.le_of_ble_eq_true rfl, Nat.le_of_ble_eq_true rfl⟩) (tt_ropreS (w := []) hK hP [] rfl) rfl rfl hl.1 rfl (lv_room (Nat.le_of_ble_eq_true rfl)) d_MO_named_12 ⟨Nat.zero_le _, Nat.zero_le _⟩) hS hP (fun H locs hP hS => ?_)
        refine lv_if_ne (tgt := 29) hx hb d_MO_named_15 (by decide) (fun c_15 => ?_) (fun c_15 => ?_)
        · have c_15 := tt_bn0.mp c_15
          refine lv_iinc (v := nI (j + 1)) (lv' := [(3, .int (nI (j + 1))), (0, .ref (am 0)), (2, .int (nI M))]) hx hb d_MO_named_29 hl (k := 2) rfl (nI_add j 1) (by decide) rfl (fun ls hl => ?_)
          refine lv_goto (tgt := 2) hx hb d_MO_named_32 (by decide) ?_
          exact ih_2 (j + 1) (by omega) (by omega) (by rw [tt_sw_in (by omega) (by simp [tt_wd, c_4, Nat.not_le.mpr c_4, c_15])]; exact he) _ _ (hP.sub (ws' := [(am 0, .inr (6, [.int ft, .ref (am 1), .int (nI cn), .ref (am 2), .int (nI tn), .ref (am 3), .ref (am 4), .ref (am 5), .ref (am 6), .ref (am 7), .ref (am 8), .int (nI mc), .int pl, .int tk, .int (nI fr), .int (nI tj), .ref (am 9), .int (nI dn)])), (am 2, .inl (cB, 16384, .inl f))]) [0, 1] rfl) hS ls (lv_sub hl [1, 2, 0] rfl)
        · have c_15 := tt_b0.mp c_15
          refine lv_aload_n hx hb d_MO_named_18 rfl (lv_at hl 0 rfl) ?_
          refine lv_iload_n hx hb d_MO_named_19 rfl (lv_at hl 2 rfl) ?_
          refine tt_roI (va_runV (As := [.int (nI j)]) (rest := []) ⟨hx, hb, hml, hown, hts⟩ (c_MO_look l D cI cB cL am ft cn tn mc pl tk fr tj dn f j (by omega) (by omega)) (cwV 1 hts (tt_gV k_718 k_720 ks_22 k_7 k_721) rfl rfl rfl hv_MO_look ⟨Nat.le_of_ble_eq_true rfl, Nat.le_of_ble_eq_true rfl⟩) (tt_ropreV (w := [(am 0, .inr (6, [.int ft, .ref (am 1), .int (nI cn), .ref (am 2), .int (nI tn), .ref (am 3), .ref (am 4), .ref (am 5), .ref (am 6), .ref (am 7), .ref (am 8), .int (nI mc), .int pl, .int tk, .int (nI fr), .int (nI tj), .ref (am 9), .int (nI dn)])), (am 2, .inl (cB, 16384, .inl f))]) hK hP [0, 1] rfl (va_recv hK hP (ci := 6) (q0 := 0) rfl rfl)) rfl rfl hl.1 rfl (lv_room (Nat.le_of_ble_eq_true rfl)) d_MO_named_20 ⟨Nat.zero_le _, Nat.zero_le _⟩) hS hP (fun H locs hP hS => ?_)
          refine tt_roI (va_runS (As := [.int (tt_ch f tn j)]) (rest := []) ⟨hx, hb, hml, hown, hts⟩ (c_MO_isDigit l D cI cB cL (tt_ch f tn j)) (cwS 1 hts (tt_gS k_729 k_730 k_7 k_731) rfl rfl rfl hv_MO_isDigit ⟨Nat.le_of_ble_eq_true rfl, Nat.le_of_ble_eq_true rfl⟩) (tt_ropreS (w := []) hK hP [] rfl) rfl rfl hl.1 rfl (lv_room (Nat.le_of_ble_eq_true rfl)) d_MO_named_23 ⟨Nat.zero_le _, Nat.zero_le _⟩) hS hP (fun H locs hP hS => ?_)
          refine lv_if_eq (tgt := 35) hx hb d_MO_named_26 (by decide) (fun c_26 => ?_) (fun c_26 => ?_)
          · have c_26 := tt_b0.mp c_26
            refine lv_iload_n hx hb d_MO_named_35 rfl (lv_at hl 2 rfl) ?_
            have o_r : (nI j) = (nI (tt_sw (fun j => tt_wd (tt_ch f tn j)) M x)) := by rw [← he, tt_sw_out (fun z => by first | omega | simp_all [tt_wd])]
            exact W.iret (v := nI j) hx hb hr (fun t ht hW => ⟨⟨_, (), rfl, o_r, trivial⟩, hS.F ht⟩) hS.2.2 d_MO_named_36
          · have c_26 := tt_bn0.mp c_26
            refine lv_iinc (v := nI (j + 1)) (lv' := [(3, .int (nI (j + 1))), (0, .ref (am 0)), (2, .int (nI M))]) hx hb d_MO_named_29 hl (k := 2) rfl (nI_add j 1) (by decide) rfl (fun ls hl => ?_)
            refine lv_goto (tgt := 2) hx hb d_MO_named_32 (by decide) ?_
            exact ih_2 (j + 1) (by omega) (by omega) (by rw [tt_sw_in (by omega) (by simp [tt_wd, c_4, Nat.not_le.mpr c_4, c_15, c_26])]; exact he) _ _ (hP.sub (ws' := [(am 0, .inr (6, [.int ft, .ref (am 1), .int (nI cn), .ref (am 2), .int (nI tn), .ref (am 3), .ref (am 4), .ref (am 5), .ref (am 6), .ref (am 7), .ref (am 8), .int (nI mc), .int pl, .int tk, .int (nI fr), .int (nI tj), .ref (am 9), .int (nI dn)])), (am 2, .inl (cB, 16384, .inl f))]) [0, 1] rfl) hS ls (lv_sub hl [1, 2, 0] rfl)
  exact cut_2 _ x (Nat.lt_succ_self _) (by omega) (by rfl) _ _ (hP.sub (ws' := [(am 0, .inr (6, [.int ft, .ref (am 1), .int (nI cn), .ref (am 2), .int (nI tn), .ref (am 3), .ref (am 4), .ref (am 5), .ref (am 6), .ref (am 7), .ref (am 8), .int (nI mc), .int pl, .int tk, .int (nI fr), .int (nI tj), .ref (am 9), .int (nI dn)])), (am 2, .inl (cB, 16384, .inl f))]) [0, 1] rfl) hS ls (lv_sub hl [1, 3, 0] rfl)
abbrev rm_MO_bytes : Room := { frames := 2, cells := 0, slots := 0, locals := 40 }
abbrev q_MO_bytes (D : va_G) (cI cB cL : ClassId) (am : Nat → Nat) (ft : Int32) (cn tn mc : Nat) (pl tk : Int32) (fr tj dn : Nat) (f : Nat → Int32) (x : Nat) (A : Nat → Prop) : Array Value → State → Outcome → State → Prop := va_Qv (fun _ => True) (fun (_ : Unit) t => va_P D vwCl [(am 0, .inr (6, [.int ft, .ref (am 1), .int (nI cn), .ref (am 2), .int (nI tn), .ref (am 3), .ref (am 4), .ref (am 5), .ref (am 6), .ref (am 7), .ref (am 8), .int (nI mc), .int pl, .int (if (tt_sw (fun j => tt_hx (tt_ch f tn j)) tn x - x) % 2 = 0 then 2 else 7), .int (nI fr), .int (nI (tt_sw (fun j => tt_hx (tt_ch f tn j)) tn x)), .ref (am 9), .int (nI dn)])), (am 2, .inl (cB, 16384, .inl f))] t.heap ∧ va_D A [(am 0, .inr (6, [.int ft, .ref (am 1), .int (nI cn), .ref (am 2), .int (nI tn), .ref (am 3), .ref (am 4), .ref (am 5), .ref (am 6), .ref (am 7), .ref (am 8), .int (nI mc), .int pl, .int (if (tt_sw (fun j => tt_hx (tt_ch f tn j)) tn x - x) % 2 = 0 then 2 else 7), .int (nI fr), .int (nI (tt_sw (fun j => tt_hx (tt_ch f tn j)) tn x)), .ref (am 9), .int (nI dn)])), (am 2, .inl (cB, 16384, .inl f))]) A
set_option maxHeartbeats 4000000 in
set_option maxRecDepth 100000 in
theorem c_MO_bytes (l : Launch) (D : va_G) (cI cB cL : ClassId) (am : Nat → Nat) (ft : Int32) (cn tn mc : Nat) (pl tk : Int32) (fr tj dn : Nat) (f : Nat → Int32) (x : Nat) (ht : tn ≤ 16384) (hx0 : x < 1073741824) (sz : Nat) : Met l y_MO_bytes w_MO_bytes rm_MO_bytes (va_Pc [.ref (am 0), .int (nI x)] (fun U => U.heap.size = sz ∧ va_P D vwCl [(am 0, .inr (6, [.int ft, .ref (am 1), .int (nI cn), .ref (am 2), .int (nI tn), .ref (am 3), .ref (am 4), .ref (am 5), .ref (am 6), .ref (am 7), .ref (am 8), .int (nI mc), .int pl, .int tk, .int (nI fr), .int (nI tj), .ref (am 9), .int (nI dn)])), (am 2, .inl (cB, 16384, .inl f))] U.heap ∧ va_K D vwCl (tt_ty cI cB cL) U ∧ va_D (fun _ => True) [(am 0, .inr (6, [.int ft, .ref (am 1), .int (nI cn), .ref (am 2), .int (nI tn), .ref (am 3), .ref (am 4), .ref (am 5), .ref (am 6), .ref (am 7), .ref (am 8), .int (nI mc), .int pl, .int tk, .int (nI fr), .int (nI tj), .ref (am 9), .int (nI dn)])), (am 2, .inl (cB, 16384, .inl f))])) (q_MO_bytes D cI cB cL am ft cn tn mc pl tk fr tj dn f x (va_A [(am 0, .inr (6, [.int ft, .ref (am 1), .int (nI cn), .ref (am 2), .int (nI tn), .ref (am 3), .ref (am 4), .ref (am 5), .ref (am 6), .ref (am 7), .ref (am 8), .int (nI mc), .int pl, .int tk, .int (nI fr), .int (nI tj), .ref (am 9), .int (nI dn)])), (am 2, .inl (cB, 16384, .inl f))] sz)) 0 0 (va_A [(am 0, .inr (6, [.int ft, .ref (am 1), .int (nI cn), .ref (am 2), .int (nI tn), .ref (am 3), .ref (am 4), .ref (am 5), .ref (am 6), .ref (am 7), .ref (am 8), .int (nI mc), .int pl, .int tk, .int (nI fr), .int (nI tj), .ref (am 9), .int (nI dn)])), (am 2, .inl (cB, 16384, .inl f))] sz) := by
  refine Met.ofW (cc := b_MO_bytes) (maxL := 3) (ret := none) (by decide) rfl ?_
  intro p e s m args below meth c s₁ B hml hv
  obtain ⟨rfl, hsz, hP, hK, hD0⟩ := hv
  have hx := B.exec
  have hb := B.bytes
  have hr := B.returns
  have hts := atoms_spec (ws := w_MO_bytes) B.pre
  have htT : ∀ w ∈ tt_T, w.before _ s = true := fun w h => hts w (List.mem_cons_of_mem _ h)
  have hown : s.vm.findClass R_MO = some m.cls := findClass_of_methodNamed B.named
  have hlocks := B.notSynchronized
  subst hsz
  have hD := hD0.self (sz := s.heap.size)
  generalize hAe : va_A [(am 0, .inr (6, [.int ft, .ref (am 1), .int (nI cn), .ref (am 2), .int (nI tn), .ref (am 3), .ref (am 4), .ref (am 5), .ref (am 6), .ref (am 7), .ref (am 8), .int (nI mc), .int pl, .int tk, .int (nI fr), .int (nI tj), .ref (am 9), .int (nI dn)])), (am 2, .inl (cB, 16384, .inl f))] s.heap.size = A at hD ⊢
  have hA : ∀ q : Nat, s.heap.size ≤ q → A q := fun q h => by rw [← hAe]; exact Or.inr h
  have hS : va_S A s.heap s.heap [] := va_S.rf
  have hl := lv_entry ([.ref (am 0), .int (nI x)]) (n := 3) (Nat.le_of_ble_eq_true rfl)
  rw [lg_entry_eq]
  generalize (lg_sl ([.ref (am 0), .int (nI x)]) ++ List.replicate (3 - (lg_sl ([.ref (am 0), .int (nI x)])).length) Slot.unset).toArray = ls at hl ⊢
  have hl : lv_has ls 3 [(0, .ref (am 0)), (1, .int (nI x))] := hl
  have hP : va_P D vwCl [(am 0, .inr (6, [.int ft, .ref (am 1), .int (nI cn), .ref (am 2), .int (nI tn), .ref (am 3), .ref (am 4), .ref (am 5), .ref (am 6), .ref (am 7), .ref (am 8), .int (nI mc), .int pl, .int tk, .int (nI fr), .int (nI tj), .ref (am 9), .int (nI dn)])), (am 2, .inl (cB, 16384, .inl f))] s.heap := hP
  refine lv_iload_n hx hb d_MO_bytes_0 rfl (lv_at hl 1 rfl) ?_
  refine lv_istore_n (lv' := [(2, .int (nI x)), (0, .ref (am 0)), (1, .int (nI x))]) hx hb d_MO_bytes_1 rfl hl (by decide) rfl (fun ls hl => ?_)
  have cut_2 : ∀ (k9 : Nat) (j : Nat) (_ : tn - j < k9) (hj : x ≤ j ∧ j ≤ max tn x) (he : tt_sw (fun j => tt_hx (tt_ch f tn j)) tn j = tt_sw (fun j => tt_hx (tt_ch f tn j)) tn x) (H : Heap) (locs : List Loc), va_P D vwCl [(am 0, .inr (6, [.int ft, .ref (am 1), .int (nI cn), .ref (am 2), .int (nI tn), .ref (am 3), .ref (am 4), .ref (am 5), .ref (am 6), .ref (am 7), .ref (am 8), .int (nI mc), .int pl, .int tk, .int (nI fr), .int (nI tj), .ref (am 9), .int (nI dn)])), (am 2, .inl (cB, 16384, .inl f))] H → va_D A [(am 0, .inr (6, [.int ft, .ref (am 1), .int (nI cn), .ref (am 2), .int (nI tn), .ref (am 3), .ref (am 4), .ref (am 5), .ref (am 6), .ref (am 7), .ref (am 8), .int (nI mc), .int pl, .int tk, .int (nI fr), .int (nI tj), .ref (am 9), .int (nI dn)])), (am 2, .inl (cB, 16384, .inl f))] → va_S A s.heap H locs → ∀ ls : Array Slot, lv_has ls 3 [(0, .ref (am 0)), (1, .int (nI x)), (2, .int (nI j))] → W p l e (headSpec w_MO_bytes rm_MO_bytes).room s m ([.ref (am 0), .int (nI x)] : List Value).toArray below meth c H locs 0 0 (MQ below (q_MO_bytes D cI cB cL am ft cn tn mc pl tk fr tj dn f x A) ([.ref (am 0), .int (nI x)] : List Value).toArray s 0 0 A) (F0 m 2 ls []) := by
    intro k9
    induction k9 with
    | zero => intro j h9; exact absurd h9 (Nat.not_lt_zero _)
    | succ k9 ih_2 =>
      intro j h9 hj he H locs hP hD hS ls hl
      refine lv_aload_n hx hb d_MO_bytes_2 rfl (lv_at hl 0 rfl) ?_
      refine lv_iload_n hx hb d_MO_bytes_3 rfl (lv_at hl 2 rfl) ?_
      refine tt_roI (va_runV (As := [.int (nI j)]) (rest := []) ⟨hx, hb, hml, hown, hts⟩ (c_MO_look l D cI cB cL am ft cn tn mc pl tk fr tj dn f j (by omega) (by omega)) (cwV 1 hts (tt_gV k_718 k_720 ks_22 k_7 k_721) rfl rfl rfl hv_MO_look ⟨Nat.le_of_ble_eq_true rfl, Nat.le_of_ble_eq_true rfl⟩) (tt_ropreV (w := [(am 0, .inr (6, [.int ft, .ref (am 1), .int (nI cn), .ref (am 2), .int (nI tn), .ref (am 3), .ref (am 4), .ref (am 5), .ref (am 6), .ref (am 7), .ref (am 8), .int (nI mc), .int pl, .int tk, .int (nI fr), .int (nI tj), .ref (am 9), .int (nI dn)])), (am 2, .inl (cB, 16384, .inl f))]) hK hP [0, 1] rfl (va_recv hK hP (ci := 6) (q0 := 0) rfl rfl)) rfl rfl hl.1 rfl (lv_room (Nat.le_of_ble_eq_true rfl)) d_MO_bytes_4 ⟨Nat.zero_le _, Nat.zero_le _⟩) hS hP (fun H locs hP hS => ?_)
      refine tt_roI (va_runS (As := [.int (tt_ch f tn j)]) (rest := []) ⟨hx, hb, hml, hown, hts⟩ (c_MO_hex l D cI cB cL (tt_ch f tn j)) (cwS 1 hts (tt_gS k_726 k_727 k_7 k_728) rfl rfl rfl hv_MO_hex ⟨Nat.le_of_ble_eq_true rfl, Nat.le_of_ble_eq_true rfl⟩) (tt_ropreS (w := []) hK hP [] rfl) rfl rfl hl.1 rfl (lv_room (Nat.le_of_ble_eq_true rfl)) d_MO_bytes_7 ⟨Nat.zero_le _, Nat.zero_le _⟩) hS hP (fun H locs hP hS => ?_)
      refine lv_if_lt (tgt := 19) hx hb d_MO_bytes_10 (by decide) (fun c_10 => ?_) (fun c_10 => ?_)
      · skip
        refine lv_aload_n hx hb d_MO_bytes_19 rfl (lv_at hl 0 rfl) ?_
        refine lv_iload_n hx hb d_MO_bytes_20 rfl (lv_at hl 2 rfl) ?_
        refine lv_iload_n hx hb d_MO_bytes_21 rfl (lv_at hl 1 rfl) ?_
        refine lv_isub hx hb d_MO_bytes_22 ?_
        refine tt_ti (show (nI j) - (nI x) = nI (j - x) from pk_sub (a := j) (b := x) (by omega)) ?_
        refine lv_iconst (v := 2) hx hb d_MO_bytes_23 (by decide) ?_
        refine lv_irem hx hb d_MO_bytes_24 (by decide) ?_
        refine tt_ti (show (nI (j - x)) - (nI (j - x)) / 2 * 2 = nI ((j - x) % 2) from pk_rem (a := (j - x)) (d := 2) (by omega) (by omega) (by omega)) ?_
        refine lv_if_ne (tgt := 32) hx hb d_MO_bytes_25 (by decide) (fun c_25 => ?_) (fun c_25 => ?_)
        · have c_25 : ¬ ((j - x) % 2) = 0 := fun z9 => c_25 ((nI_eq (a := ((j - x) % 2)) (b := 0) (by omega) (by omega)).mpr z9)
          refine lv_bipush (v := 7) hx hb d_MO_bytes_32 (by decide) ?_
          refine va_put (D := D) (ci := 6) (v := .int 7) (ty := .int) (C := R_MO) (T := F_MO) (N := 18) hx hb htT i_MO t_MO t_MO_ok n_MO hown hK hP hD hS 0 rfl rfl 13 (by decide) (htT _ k_648) (fun _ h9 => h9) rfl (by decide +kernel) rfl rfl (Nat.le_of_ble_eq_true rfl) d_MO_bytes_34 (fun H locs hP hD hS => ?_)
          have hP : va_P D vwCl [(am 0, .inr (6, [.int ft, .ref (am 1), .int (nI cn), .ref (am 2), .int (nI tn), .ref (am 3), .ref (am 4), .ref (am 5), .ref (am 6), .ref (am 7), .ref (am 8), .int (nI mc), .int pl, .int 7, .int (nI fr), .int (nI tj), .ref (am 9), .int (nI dn)])), (am 2, .inl (cB, 16384, .inl f))] H := hP
          have hD : va_D A [(am 0, .inr (6, [.int ft, .ref (am 1), .int (nI cn), .ref (am 2), .int (nI tn), .ref (am 3), .ref (am 4), .ref (am 5), .ref (am 6), .ref (am 7), .ref (am 8), .int (nI mc), .int pl, .int 7, .int (nI fr), .int (nI tj), .ref (am 9), .int (nI dn)])), (am 2, .inl (cB, 16384, .inl f))] := hD
          refine lv_aload_n hx hb d_MO_bytes_37 rfl (lv_at hl 0 rfl) ?_
          refine lv_iload_n hx hb d_MO_bytes_38 rfl (lv_at hl 2 rfl) ?_
          refine va_put (D := D) (ci := 6) (v := .int (nI j)) (ty := .int) (C := R_MO) (T := F_MO) (N := 18) hx hb htT i_MO t_MO t_MO_ok n_MO hown hK hP hD hS 0 rfl rfl 15 (by decide) (htT _ k_650) (fun _ h9 => h9) rfl (by decide +kernel) rfl rfl (Nat.le_of_ble_eq_true rfl) d_MO_bytes_39 (fun H locs hP hD hS => ?_)
          have hP : va_P D vwCl [(am 0, .inr (6, [.int ft, .ref (am 1), .int (nI cn), .ref (am 2), .int (nI tn), .ref (am 3), .ref (am 4), .ref (am 5), .ref (am 6), .ref (am 7), .ref (am 8), .int (nI mc), .int pl, .int 7, .int (nI fr), .int (nI j), .ref (am 9), .int (nI dn)])), (am 2, .inl (cB, 16384, .inl f))] H := hP
          have hD : va_D A [(am 0, .inr (6, [.int ft, .ref (am 1), .int (nI cn), .ref (am 2), .int (nI tn), .ref (am 3), .ref (am 4), .ref (am 5), .ref (am 6), .ref (am 7), .ref (am 8), .int (nI mc), .int pl, .int 7, .int (nI fr), .int (nI j), .ref (am 9), .int (nI dn)])), (am 2, .inl (cB, 16384, .inl f))] := hD
          have o_tk2 : (if (tt_sw (fun j => tt_hx (tt_ch f tn j)) tn x - x) % 2 = 0 then 2 else 7 : Int32) = 7 := by rw [← he, tt_sw_out (fun z => by rw [tt_hex_out c_10] at z; exact absurd z.2 (by decide))]; simp [c_25]
          have o_tj2 : (tt_sw (fun j => tt_hx (tt_ch f tn j)) tn x : Nat) = j := by rw [← he, tt_sw_out (fun z => by rw [tt_hex_out c_10] at z; exact absurd z.2 (by decide))]
          have hP9 : va_P D vwCl [(am 0, .inr (6, [.int ft, .ref (am 1), .int (nI cn), .ref (am 2), .int (nI tn), .ref (am 3), .ref (am 4), .ref (am 5), .ref (am 6), .ref (am 7), .ref (am 8), .int (nI mc), .int pl, .int 7, .int (nI fr), .int (nI j), .ref (am 9), .int (nI dn)])), (am 2, .inl (cB, 16384, .inl f))] H := hP.sub [0, 1] rfl
          have hD9 : va_D A [(am 0, .inr (6, [.int ft, .ref (am 1), .int (nI cn), .ref (am 2), .int (nI tn), .ref (am 3), .ref (am 4), .ref (am 5), .ref (am 6), .ref (am 7), .ref (am 8), .int (nI mc), .int pl, .int 7, .int (nI fr), .int (nI j), .ref (am 9), .int (nI dn)])), (am 2, .inl (cB, 16384, .inl f))] := hD.sub [0, 1] (by decide) rfl
          have hP9 : va_P D vwCl [(am 0, .inr (6, [.int ft, .ref (am 1), .int (nI cn), .ref (am 2), .int (nI tn), .ref (am 3), .ref (am 4), .ref (am 5), .ref (am 6), .ref (am 7), .ref (am 8), .int (nI mc), .int pl, .int (if (tt_sw (fun j => tt_hx (tt_ch f tn j)) tn x - x) % 2 = 0 then 2 else 7), .int (nI fr), .int (nI (tt_sw (fun j => tt_hx (tt_ch f tn j)) tn x)), .ref (am 9), .int (nI dn)])), (am 2, .inl (cB, 16384, .inl f))] H := by rw [o_tk2, o_tj2]; exact hP9
          have hD9 : va_D A [(am 0, .inr (6, [.int ft, .ref (am 1), .int (nI cn), .ref (am 2), .int (nI tn), .ref (am 3), .ref (am 4), .ref (am 5), .ref (am 6), .ref (am 7), .ref (am 8), .int (nI mc), .int pl, .int (if (tt_sw (fun j => tt_hx (tt_ch f tn j)) tn x - x) % 2 = 0 then 2 else 7), .int (nI fr), .int (nI (tt_sw (fun j => tt_hx (tt_ch f tn j)) tn x)), .ref (am 9), .int (nI dn)])), (am 2, .inl (cB, 16384, .inl f))] := by rw [o_tk2, o_tj2]; exact hD9
          exact W.vret hx hb hr (fun t ht hW => ⟨⟨(), rfl, trivial, by rw [ht]; exact hP9, hD9⟩, hS.F ht⟩) hS.2.2 d_MO_bytes_42
        · have c_25 : ((j - x) % 2) = 0 := (nI_eq (a := ((j - x) % 2)) (b := 0) (by omega) (by omega)).mp c_25
          refine lv_iconst (v := 2) hx hb d_MO_bytes_28 (by decide) ?_
          refine lv_goto (tgt := 34) hx hb d_MO_bytes_29 (by decide) ?_
          refine va_put (D := D) (ci := 6) (v := .int 2) (ty := .int) (C := R_MO) (T := F_MO) (N := 18) hx hb htT i_MO t_MO t_MO_ok n_MO hown hK hP hD hS 0 rfl rfl 13 (by decide) (htT _ k_648) (fun _ h9 => h9) rfl (by decide +kernel) rfl rfl (Nat.le_of_ble_eq_true rfl) d_MO_bytes_34 (fun H locs hP hD hS => ?_)
          have hP : va_P D vwCl [(am 0, .inr (6, [.int ft, .ref (am 1), .int (nI cn), .ref (am 2), .int (nI tn), .ref (am 3), .ref (am 4), .ref (am 5), .ref (am 6), .ref (am 7), .ref (am 8), .int (nI mc), .int pl, .int 2, .int (nI fr), .int (nI tj), .ref (am 9), .int (nI dn)])), (am 2, .inl (cB, 16384, .inl f))] H := hP
          have hD : va_D A [(am 0, .inr (6, [.int ft, .ref (am 1), .int (nI cn), .ref (am 2), .int (nI tn), .ref (am 3), .ref (am 4), .ref (am 5), .ref (am 6), .ref (am 7), .ref (am 8), .int (nI mc), .int pl, .int 2, .int (nI fr), .int (nI tj), .ref (am 9), .int (nI dn)])), (am 2, .inl (cB, 16384, .inl f))] := hD
          refine lv_aload_n hx hb d_MO_bytes_37 rfl (lv_at hl 0 rfl) ?_
          refine lv_iload_n hx hb d_MO_bytes_38 rfl (lv_at hl 2 rfl) ?_
          refine va_put (D := D) (ci := 6) (v := .int (nI j)) (ty := .int) (C := R_MO) (T := F_MO) (N := 18) hx hb htT i_MO t_MO t_MO_ok n_MO hown hK hP hD hS 0 rfl rfl 15 (by decide) (htT _ k_650) (fun _ h9 => h9) rfl (by decide +kernel) rfl rfl (Nat.le_of_ble_eq_true rfl) d_MO_bytes_39 (fun H locs hP hD hS => ?_)
          have hP : va_P D vwCl [(am 0, .inr (6, [.int ft, .ref (am 1), .int (nI cn), .ref (am 2), .int (nI tn), .ref (am 3), .ref (am 4), .ref (am 5), .ref (am 6), .ref (am 7), .ref (am 8), .int (nI mc), .int pl, .int 2, .int (nI fr), .int (nI j), .ref (am 9), .int (nI dn)])), (am 2, .inl (cB, 16384, .inl f))] H := hP
          have hD : va_D A [(am 0, .inr (6, [.int ft, .ref (am 1), .int (nI cn), .ref (am 2), .int (nI tn), .ref (am 3), .ref (am 4), .ref (am 5), .ref (am 6), .ref (am 7), .ref (am 8), .int (nI mc), .int pl, .int 2, .int (nI fr), .int (nI j), .ref (am 9), .int (nI dn)])), (am 2, .inl (cB, 16384, .inl f))] := hD
          have o_tk2 : (if (tt_sw (fun j => tt_hx (tt_ch f tn j)) tn x - x) % 2 = 0 then 2 else 7 : Int32) = 2 := by rw [← he, tt_sw_out (fun z => by rw [tt_hex_out c_10] at z; exact absurd z.2 (by decide))]; simp [c_25]
          have o_tj2 : (tt_sw (fun j => tt_hx (tt_ch f tn j)) tn x : Nat) = j := by rw [← he, tt_sw_out (fun z => by rw [tt_hex_out c_10] at z; exact absurd z.2 (by decide))]
          have hP9 : va_P D vwCl [(am 0, .inr (6, [.int ft, .ref (am 1), .int (nI cn), .ref (am 2), .int (nI tn), .ref (am 3), .ref (am 4), .ref (am 5), .ref (am 6), .ref (am 7), .ref (am 8), .int (nI mc), .int pl, .int 2, .int (nI fr), .int (nI j), .ref (am 9), .int (nI dn)])), (am 2, .inl (cB, 16384, .inl f))] H := hP.sub [0, 1] rfl
          have hD9 : va_D A [(am 0, .inr (6, [.int ft, .ref (am 1), .int (nI cn), .ref (am 2), .int (nI tn), .ref (am 3), .ref (am 4), .ref (am 5), .ref (am 6), .ref (am 7), .ref (am 8), .int (nI mc), .int pl, .int 2, .int (nI fr), .int (nI j), .ref (am 9), .int (nI dn)])), (am 2, .inl (cB, 16384, .inl f))] := hD.sub [0, 1] (by decide) rfl
          have hP9 : va_P D vwCl [(am 0, .inr (6, [.int ft, .ref (am 1), .int (nI cn), .ref (am 2), .int (nI tn), .ref (am 3), .ref (am 4), .ref (am 5), .ref (am 6), .ref (am 7), .ref (am 8), .int (nI mc), .int pl, .int (if (tt_sw (fun j => tt_hx (tt_ch f tn j)) tn x - x) % 2 = 0 then 2 else 7), .int (nI fr), .int (nI (tt_sw (fun j => tt_hx (tt_ch f tn j)) tn x)), .ref (am 9), .int (nI dn)])), (am 2, .inl (cB, 16384, .inl f))] H := by rw [o_tk2, o_tj2]; exact hP9
          have hD9 : va_D A [(am 0, .inr (6, [.int ft, .ref (am 1), .int (nI cn), .ref (am 2), .int (nI tn), .ref (am 3), .ref (am 4), .ref (am 5), .ref (am 6), .ref (am 7), .ref (am 8), .int (nI mc), .int pl, .int (if (tt_sw (fun j => tt_hx (tt_ch f tn j)) tn x - x) % 2 = 0 then 2 else 7), .int (nI fr), .int (nI (tt_sw (fun j => tt_hx (tt_ch f tn j)) tn x)), .ref (am 9), .int (nI dn)])), (am 2, .inl (cB, 16384, .inl f))] := by rw [o_tk2, o_tj2]; exact hD9
          exact W.vret hx hb hr (fun t ht hW => ⟨⟨(), rfl, trivial, by rw [ht]; exact hP9, hD9⟩, hS.F ht⟩) hS.2.2 d_MO_bytes_42
      · skip
        refine lv_iinc (v := nI (j + 1)) (lv' := [(2, .int (nI (j + 1))), (0, .ref (am 0)), (1, .int (nI x))]) hx hb d_MO_bytes_13 hl (k := 2) rfl (nI_add j 1) (by decide) rfl (fun ls hl => ?_)
        refine lv_goto (tgt := 2) hx hb d_MO_bytes_16 (by decide) ?_
        exact ih_2 (j + 1) (by have := tt_P_in tt_hx_m1 _ (tt_hex_in c_10); omega) (by have := tt_P_in tt_hx_m1 _ (tt_hex_in c_10); omega) (by rw [tt_sw_in (tt_P_in tt_hx_m1 _ (tt_hex_in c_10)) (tt_hex_in c_10)]; exact he) _ _ (hP.sub (ws' := [(am 0, .inr (6, [.int ft, .ref (am 1), .int (nI cn), .ref (am 2), .int (nI tn), .ref (am 3), .ref (am 4), .ref (am 5), .ref (am 6), .ref (am 7), .ref (am 8), .int (nI mc), .int pl, .int tk, .int (nI fr), .int (nI tj), .ref (am 9), .int (nI dn)])), (am 2, .inl (cB, 16384, .inl f))]) [0, 1] rfl) (hD.sub (ws' := [(am 0, .inr (6, [.int ft, .ref (am 1), .int (nI cn), .ref (am 2), .int (nI tn), .ref (am 3), .ref (am 4), .ref (am 5), .ref (am 6), .ref (am 7), .ref (am 8), .int (nI mc), .int pl, .int tk, .int (nI fr), .int (nI tj), .ref (am 9), .int (nI dn)])), (am 2, .inl (cB, 16384, .inl f))]) [0, 1] (by decide) rfl) hS ls (lv_sub hl [1, 2, 0] rfl)
  exact cut_2 _ x (Nat.lt_succ_self _) (by omega) (by rfl) _ _ (hP.sub (ws' := [(am 0, .inr (6, [.int ft, .ref (am 1), .int (nI cn), .ref (am 2), .int (nI tn), .ref (am 3), .ref (am 4), .ref (am 5), .ref (am 6), .ref (am 7), .ref (am 8), .int (nI mc), .int pl, .int tk, .int (nI fr), .int (nI tj), .ref (am 9), .int (nI dn)])), (am 2, .inl (cB, 16384, .inl f))]) [0, 1] rfl) (hD.sub (ws' := [(am 0, .inr (6, [.int ft, .ref (am 1), .int (nI cn), .ref (am 2), .int (nI tn), .ref (am 3), .ref (am 4), .ref (am 5), .ref (am 6), .ref (am 7), .ref (am 8), .int (nI mc), .int pl, .int tk, .int (nI fr), .int (nI tj), .ref (am 9), .int (nI dn)])), (am 2, .inl (cB, 16384, .inl f))]) [0, 1] (by decide) rfl) hS ls (lv_sub hl [1, 2, 0] rfl)
abbrev rm_MO_number : Room := { frames := 1, cells := 0, slots := 0, locals := 21 }
abbrev q_MO_number (D : va_G) (cI cB cL : ClassId) (am : Nat → Nat) (ft : Int32) (cn tn mc : Nat) (pl tk : Int32) (fr tj dn : Nat) (f : Nat → Int32) (x : Nat) (A : Nat → Prop) : Array Value → State → Outcome → State → Prop := va_Qv (fun _ => True) (fun (_ : Unit) t => va_P D vwCl [(am 0, .inr (6, [.int ft, .ref (am 1), .int (nI cn), .ref (am 2), .int (nI tn), .ref (am 3), .ref (am 4), .ref (am 5), .ref (am 6), .ref (am 7), .ref (am 8), .int (nI mc), .int pl, .int (if x < tt_sw (fun j => tt_dig (tt_ch f tn j)) tn x then 0 else 7), .int (nI fr), .int (nI (tt_sw (fun j => tt_dig (tt_ch f tn j)) tn x)), .ref (am 9), .int (nI dn)])), (am 2, .inl (cB, 16384, .inl f))] t.heap ∧ va_D A [(am 0, .inr (6, [.int ft, .ref (am 1), .int (nI cn), .ref (am 2), .int (nI tn), .ref (am 3), .ref (am 4), .ref (am 5), .ref (am 6), .ref (am 7), .ref (am 8), .int (nI mc), .int pl, .int (if x < tt_sw (fun j => tt_dig (tt_ch f tn j)) tn x then 0 else 7), .int (nI fr), .int (nI (tt_sw (fun j => tt_dig (tt_ch f tn j)) tn x)), .ref (am 9), .int (nI dn)])), (am 2, .inl (cB, 16384, .inl f))]) A
set_option maxHeartbeats 4000000 in
set_option maxRecDepth 100000 in
theorem c_MO_number (l : Launch) (D : va_G) (cI cB cL : ClassId) (am : Nat → Nat) (ft : Int32) (cn tn mc : Nat) (pl tk : Int32) (fr tj dn : Nat) (f : Nat → Int32) (x : Nat) (ht : tn ≤ 16384) (hx0 : x < 1073741824) (sz : Nat) : Met l y_MO_number w_MO_number rm_MO_number (va_Pc [.ref (am 0), .int (nI x)] (fun U => U.heap.size = sz ∧ va_P D vwCl [(am 0, .inr (6, [.int ft, .ref (am 1), .int (nI cn), .ref (am 2), .int (nI tn), .ref (am 3), .ref (am 4), .ref (am 5), .ref (am 6), .ref (am 7), .ref (am 8), .int (nI mc), .int pl, .int tk, .int (nI fr), .int (nI tj), .ref (am 9), .int (nI dn)])), (am 2, .inl (cB, 16384, .inl f))] U.heap ∧ va_K D vwCl (tt_ty cI cB cL) U ∧ va_D (fun _ => True) [(am 0, .inr (6, [.int ft, .ref (am 1), .int (nI cn), .ref (am 2), .int (nI tn), .ref (am 3), .ref (am 4), .ref (am 5), .ref (am 6), .ref (am 7), .ref (am 8), .int (nI mc), .int pl, .int tk, .int (nI fr), .int (nI tj), .ref (am 9), .int (nI dn)])), (am 2, .inl (cB, 16384, .inl f))])) (q_MO_number D cI cB cL am ft cn tn mc pl tk fr tj dn f x (va_A [(am 0, .inr (6, [.int ft, .ref (am 1), .int (nI cn), .ref (am 2), .int (nI tn), .ref (am 3), .ref (am 4), .ref (am 5), .ref (am 6), .ref (am 7), .ref (am 8), .int (nI mc), .int pl, .int tk, .int (nI fr), .int (nI tj), .ref (am 9), .int (nI dn)])), (am 2, .inl (cB, 16384, .inl f))] sz)) 0 0 (va_A [(am 0, .inr (6, [.int ft, .ref (am 1), .int (nI cn), .ref (am 2), .int (nI tn), .ref (am 3), .ref (am 4), .ref (am 5), .ref (am 6), .ref (am 7), .ref (am 8), .int (nI mc), .int pl, .int tk, .int (nI fr), .int (nI tj), .ref (am 9), .int (nI dn)])), (am 2, .inl (cB, 16384, .inl f))] sz) := by
  refine Met.ofW (cc := b_MO_number) (maxL := 3) (ret := none) (by decide) rfl ?_
  intro p e s m args below meth c s₁ B hml hv
  obtain ⟨rfl, hsz, hP, hK, hD0⟩ := hv
  have hx := B.exec
  have hb := B.bytes
  have hr := B.returns
  have hts := atoms_spec (ws := w_MO_number) B.pre
  have htT : ∀ w ∈ tt_T, w.before _ s = true := fun w h => hts w (List.mem_cons_of_mem _ h)
  have hown : s.vm.findClass R_MO = some m.cls := findClass_of_methodNamed B.named
  have hlocks := B.notSynchronized
  subst hsz
  have hD := hD0.self (sz := s.heap.size)
  generalize hAe : va_A [(am 0, .inr (6, [.int ft, .ref (am 1), .int (nI cn), .ref (am 2), .int (nI tn), .ref (am 3), .ref (am 4), .ref (am 5), .ref (am 6), .ref (am 7), .ref (am 8), .int (nI mc), .int pl, .int tk, .int (nI fr), .int (nI tj), .ref (am 9), .int (nI dn)])), (am 2, .inl (cB, 16384, .inl f))] s.heap.size = A at hD ⊢
  have hA : ∀ q : Nat, s.heap.size ≤ q → A q := fun q h => by rw [← hAe]; exact Or.inr h
  have hS : va_S A s.heap s.heap [] := va_S.rf
  have hl := lv_entry ([.ref (am 0), .int (nI x)]) (n := 3) (Nat.le_of_ble_eq_true rfl)
  rw [lg_entry_eq]
  generalize (lg_sl ([.ref (am 0), .int (nI x)]) ++ List.replicate (3 - (lg_sl ([.ref (am 0), .int (nI x)])).length) Slot.unset).toArray = ls at hl ⊢
  have hl : lv_has ls 3 [(0, .ref (am 0)), (1, .int (nI x))] := hl
  have hP : va_P D vwCl [(am 0, .inr (6, [.int ft, .ref (am 1), .int (nI cn), .ref (am 2), .int (nI tn), .ref (am 3), .ref (am 4), .ref (am 5), .ref (am 6), .ref (am 7), .ref (am 8), .int (nI mc), .int pl, .int tk, .int (nI fr), .int (nI tj), .ref (am 9), .int (nI dn)])), (am 2, .inl (cB, 16384, .inl f))] s.heap := hP
  refine lv_iload_n hx hb d_MO_number_0 rfl (lv_at hl 1 rfl) ?_
  refine lv_istore_n (lv' := [(2, .int (nI x)), (0, .ref (am 0)), (1, .int (nI x))]) hx hb d_MO_number_1 rfl hl (by decide) rfl (fun ls hl => ?_)
  have cut_2 : ∀ (k9 : Nat) (j : Nat) (_ : tn - j < k9) (hj : x ≤ j ∧ j ≤ max tn x) (he : tt_sw (fun j => tt_dig (tt_ch f tn j)) tn j = tt_sw (fun j => tt_dig (tt_ch f tn j)) tn x) (H : Heap) (locs : List Loc), va_P D vwCl [(am 0, .inr (6, [.int ft, .ref (am 1), .int (nI cn), .ref (am 2), .int (nI tn), .ref (am 3), .ref (am 4), .ref (am 5), .ref (am 6), .ref (am 7), .ref (am 8), .int (nI mc), .int pl, .int tk, .int (nI fr), .int (nI tj), .ref (am 9), .int (nI dn)])), (am 2, .inl (cB, 16384, .inl f))] H → va_D A [(am 0, .inr (6, [.int ft, .ref (am 1), .int (nI cn), .ref (am 2), .int (nI tn), .ref (am 3), .ref (am 4), .ref (am 5), .ref (am 6), .ref (am 7), .ref (am 8), .int (nI mc), .int pl, .int tk, .int (nI fr), .int (nI tj), .ref (am 9), .int (nI dn)])), (am 2, .inl (cB, 16384, .inl f))] → va_S A s.heap H locs → ∀ ls : Array Slot, lv_has ls 3 [(0, .ref (am 0)), (1, .int (nI x)), (2, .int (nI j))] → W p l e (headSpec w_MO_number rm_MO_number).room s m ([.ref (am 0), .int (nI x)] : List Value).toArray below meth c H locs 0 0 (MQ below (q_MO_number D cI cB cL am ft cn tn mc pl tk fr tj dn f x A) ([.ref (am 0), .int (nI x)] : List Value).toArray s 0 0 A) (F0 m 2 ls []) := by
    intro k9
    induction k9 with
    | zero => intro j h9; exact absurd h9 (Nat.not_lt_zero _)
    | succ k9 ih_2 =>
      intro j h9 hj he H locs hP hD hS ls hl
      refine lv_aload_n hx hb d_MO_number_2 rfl (lv_at hl 0 rfl) ?_
      refine lv_iload_n hx hb d_MO_number_3 rfl (lv_at hl 2 rfl) ?_
      refine tt_roI (va_runV (As := [.int (nI j)]) (rest := []) ⟨hx, hb, hml, hown, hts⟩ (c_MO_look l D cI cB cL am ft cn tn mc pl tk fr tj dn f j (by omega) (by omega)) (cwV 1 hts (tt_gV k_718 k_720 ks_22 k_7 k_721) rfl rfl rfl hv_MO_look ⟨Nat.le_of_ble_eq_true rfl, Nat.le_of_ble_eq_true rfl⟩) (tt_ropreV (w := [(am 0, .inr (6, [.int ft, .ref (am 1), .int (nI cn), .ref (am 2), .int (nI tn), .ref (am 3), .ref (am 4), .ref (am 5), .ref (am 6), .ref (am 7), .ref (am 8), .int (nI mc), .int pl, .int tk, .int (nI fr), .int (nI tj), .ref (am 9), .int (nI dn)])), (am 2, .inl (cB, 16384, .inl f))]) hK hP [0, 1] rfl (va_recv hK hP (ci := 6) (q0 := 0) rfl rfl)) rfl rfl hl.1 rfl (lv_room (Nat.le_of_ble_eq_true rfl)) d_MO_number_4 ⟨Nat.zero_le _, Nat.zero_le _⟩) hS hP (fun H locs hP hS => ?_)
      refine tt_roI (va_runS (As := [.int (tt_ch f tn j)]) (rest := []) ⟨hx, hb, hml, hown, hts⟩ (c_MO_isDigit l D cI cB cL (tt_ch f tn j)) (cwS 1 hts (tt_gS k_729 k_730 k_7 k_731) rfl rfl rfl hv_MO_isDigit ⟨Nat.le_of_ble_eq_true rfl, Nat.le_of_ble_eq_true rfl⟩) (tt_ropreS (w := []) hK hP [] rfl) rfl rfl hl.1 rfl (lv_room (Nat.le_of_ble_eq_true rfl)) d_MO_number_7 ⟨Nat.zero_le _, Nat.zero_le _⟩) hS hP (fun H locs hP hS => ?_)
      refine lv_if_eq (tgt := 19) hx hb d_MO_number_10 (by decide) (fun c_10 => ?_) (fun c_10 => ?_)
      · have c_10 := tt_b0.mp c_10
        refine lv_aload_n hx hb d_MO_number_19 rfl (lv_at hl 0 rfl) ?_
        refine lv_iload_n hx hb d_MO_number_20 rfl (lv_at hl 2 rfl) ?_
        refine lv_iload_n hx hb d_MO_number_21 rfl (lv_at hl 1 rfl) ?_
        refine lv_icmp_le (tgt := 29) hx hb d_MO_number_22 (by decide) (fun c_22 => ?_) (fun c_22 => ?_)
        · have c_22 : j ≤ x := (nI_leI (a := j) (b := x) (by omega) (by omega)).mp c_22
          refine lv_bipush (v := 7) hx hb d_MO_number_29 (by decide) ?_
          refine va_put (D := D) (ci := 6) (v := .int 7) (ty := .int) (C := R_MO) (T := F_MO) (N := 18) hx hb htT i_MO t_MO t_MO_ok n_MO hown hK hP hD hS 0 rfl rfl 13 (by decide) (htT _ k_648) (fun _ h9 => h9) rfl (by decide +kernel) rfl rfl (Nat.le_of_ble_eq_true rfl) d_MO_number_31 (fun H locs hP hD hS => ?_)
          have hP : va_P D vwCl [(am 0, .inr (6, [.int ft, .ref (am 1), .int (nI cn), .ref (am 2), .int (nI tn), .ref (am 3), .ref (am 4), .ref (am 5), .ref (am 6), .ref (am 7), .ref (am 8), .int (nI mc), .int pl, .int 7, .int (nI fr), .int (nI tj), .ref (am 9), .int (nI dn)])), (am 2, .inl (cB, 16384, .inl f))] H := hP
          have hD : va_D A [(am 0, .inr (6, [.int ft, .ref (am 1), .int (nI cn), .ref (am 2), .int (nI tn), .ref (am 3), .ref (am 4), .ref (am 5), .ref (am 6), .ref (am 7), .ref (am 8), .int (nI mc), .int pl, .int 7, .int (nI fr), .int (nI tj), .ref (am 9), .int (nI dn)])), (am 2, .inl (cB, 16384, .inl f))] := hD
          refine lv_aload_n hx hb d_MO_number_34 rfl (lv_at hl 0 rfl) ?_
          refine lv_iload_n hx hb d_MO_number_35 rfl (lv_at hl 2 rfl) ?_
          refine va_put (D := D) (ci := 6) (v := .int (nI j)) (ty := .int) (C := R_MO) (T := F_MO) (N := 18) hx hb htT i_MO t_MO t_MO_ok n_MO hown hK hP hD hS 0 rfl rfl 15 (by decide) (htT _ k_650) (fun _ h9 => h9) rfl (by decide +kernel) rfl rfl (Nat.le_of_ble_eq_true rfl) d_MO_number_36 (fun H locs hP hD hS => ?_)
          have hP : va_P D vwCl [(am 0, .inr (6, [.int ft, .ref (am 1), .int (nI cn), .ref (am 2), .int (nI tn), .ref (am 3), .ref (am 4), .ref (am 5), .ref (am 6), .ref (am 7), .ref (am 8), .int (nI mc), .int pl, .int 7, .int (nI fr), .int (nI j), .ref (am 9), .int (nI dn)])), (am 2, .inl (cB, 16384, .inl f))] H := hP
          have hD : va_D A [(am 0, .inr (6, [.int ft, .ref (am 1), .int (nI cn), .ref (am 2), .int (nI tn), .ref (am 3), .ref (am 4), .ref (am 5), .ref (am 6), .ref (am 7), .ref (am 8), .int (nI mc), .int pl, .int 7, .int (nI fr), .int (nI j), .ref (am 9), .int (nI dn)])), (am 2, .inl (cB, 16384, .inl f))] := hD
          have o_tk2 : (if x < tt_sw (fun j => tt_dig (tt_ch f tn j)) tn x then 0 else 7 : Int32) = 7 := by rw [← he, tt_sw_out (fun z => by simp_all)]; simp; omega
          have o_tj2 : (tt_sw (fun j => tt_dig (tt_ch f tn j)) tn x : Nat) = j := by rw [← he, tt_sw_out (fun z => by simp_all)]
          have hP9 : va_P D vwCl [(am 0, .inr (6, [.int ft, .ref (am 1), .int (nI cn), .ref (am 2), .int (nI tn), .ref (am 3), .ref (am 4), .ref (am 5), .ref (am 6), .ref (am 7), .ref (am 8), .int (nI mc), .int pl, .int 7, .int (nI fr), .int (nI j), .ref (am 9), .int (nI dn)])), (am 2, .inl (cB, 16384, .inl f))] H := hP.sub [0, 1] rfl
          have hD9 : va_D A [(am 0, .inr (6, [.int ft, .ref (am 1), .int (nI cn), .ref (am 2), .int (nI tn), .ref (am 3), .ref (am 4), .ref (am 5), .ref (am 6), .ref (am 7), .ref (am 8), .int (nI mc), .int pl, .int 7, .int (nI fr), .int (nI j), .ref (am 9), .int (nI dn)])), (am 2, .inl (cB, 16384, .inl f))] := hD.sub [0, 1] (by decide) rfl
          have hP9 : va_P D vwCl [(am 0, .inr (6, [.int ft, .ref (am 1), .int (nI cn), .ref (am 2), .int (nI tn), .ref (am 3), .ref (am 4), .ref (am 5), .ref (am 6), .ref (am 7), .ref (am 8), .int (nI mc), .int pl, .int (if x < tt_sw (fun j => tt_dig (tt_ch f tn j)) tn x then 0 else 7), .int (nI fr), .int (nI (tt_sw (fun j => tt_dig (tt_ch f tn j)) tn x)), .ref (am 9), .int (nI dn)])), (am 2, .inl (cB, 16384, .inl f))] H := by rw [o_tk2, o_tj2]; exact hP9
          have hD9 : va_D A [(am 0, .inr (6, [.int ft, .ref (am 1), .int (nI cn), .ref (am 2), .int (nI tn), .ref (am 3), .ref (am 4), .ref (am 5), .ref (am 6), .ref (am 7), .ref (am 8), .int (nI mc), .int pl, .int (if x < tt_sw (fun j => tt_dig (tt_ch f tn j)) tn x then 0 else 7), .int (nI fr), .int (nI (tt_sw (fun j => tt_dig (tt_ch f tn j)) tn x)), .ref (am 9), .int (nI dn)])), (am 2, .inl (cB, 16384, .inl f))] := by rw [o_tk2, o_tj2]; exact hD9
          exact W.vret hx hb hr (fun t ht hW => ⟨⟨(), rfl, trivial, by rw [ht]; exact hP9, hD9⟩, hS.F ht⟩) hS.2.2 d_MO_number_39
        · have c_22 : ¬ j ≤ x := fun z9 => c_22 ((nI_leI (a := j) (b := x) (by omega) (by omega)).mpr z9)
          have c_22 := Nat.not_le.mp c_22
          refine lv_iconst (v := 0) hx hb d_MO_number_25 (by decide) ?_
          refine lv_goto (tgt := 31) hx hb d_MO_number_26 (by decide) ?_
          refine va_put (D := D) (ci := 6) (v := .int 0) (ty := .int) (C := R_MO) (T := F_MO) (N := 18) hx hb htT i_MO t_MO t_MO_ok n_MO hown hK hP hD hS 0 rfl rfl 13 (by decide) (htT _ k_648) (fun _ h9 => h9) rfl (by decide +kernel) rfl rfl (Nat.le_of_ble_eq_true rfl) d_MO_number_31 (fun H locs hP hD hS => ?_)
          have hP : va_P D vwCl [(am 0, .inr (6, [.int ft, .ref (am 1), .int (nI cn), .ref (am 2), .int (nI tn), .ref (am 3), .ref (am 4), .ref (am 5), .ref (am 6), .ref (am 7), .ref (am 8), .int (nI mc), .int pl, .int 0, .int (nI fr), .int (nI tj), .ref (am 9), .int (nI dn)])), (am 2, .inl (cB, 16384, .inl f))] H := hP
          have hD : va_D A [(am 0, .inr (6, [.int ft, .ref (am 1), .int (nI cn), .ref (am 2), .int (nI tn), .ref (am 3), .ref (am 4), .ref (am 5), .ref (am 6), .ref (am 7), .ref (am 8), .int (nI mc), .int pl, .int 0, .int (nI fr), .int (nI tj), .ref (am 9), .int (nI dn)])), (am 2, .inl (cB, 16384, .inl f))] := hD
          refine lv_aload_n hx hb d_MO_number_34 rfl (lv_at hl 0 rfl) ?_
          refine lv_iload_n hx hb d_MO_number_35 rfl (lv_at hl 2 rfl) ?_
          refine va_put (D := D) (ci := 6) (v := .int (nI j)) (ty := .int) (C := R_MO) (T := F_MO) (N := 18) hx hb htT i_MO t_MO t_MO_ok n_MO hown hK hP hD hS 0 rfl rfl 15 (by decide) (htT _ k_650) (fun _ h9 => h9) rfl (by decide +kernel) rfl rfl (Nat.le_of_ble_eq_true rfl) d_MO_number_36 (fun H locs hP hD hS => ?_)
          have hP : va_P D vwCl [(am 0, .inr (6, [.int ft, .ref (am 1), .int (nI cn), .ref (am 2), .int (nI tn), .ref (am 3), .ref (am 4), .ref (am 5), .ref (am 6), .ref (am 7), .ref (am 8), .int (nI mc), .int pl, .int 0, .int (nI fr), .int (nI j), .ref (am 9), .int (nI dn)])), (am 2, .inl (cB, 16384, .inl f))] H := hP
          have hD : va_D A [(am 0, .inr (6, [.int ft, .ref (am 1), .int (nI cn), .ref (am 2), .int (nI tn), .ref (am 3), .ref (am 4), .ref (am 5), .ref (am 6), .ref (am 7), .ref (am 8), .int (nI mc), .int pl, .int 0, .int (nI fr), .int (nI j), .ref (am 9), .int (nI dn)])), (am 2, .inl (cB, 16384, .inl f))] := hD
          have o_tk2 : (if x < tt_sw (fun j => tt_dig (tt_ch f tn j)) tn x then 0 else 7 : Int32) = 0 := by rw [← he, tt_sw_out (fun z => by simp_all)]; simp; omega
          have o_tj2 : (tt_sw (fun j => tt_dig (tt_ch f tn j)) tn x : Nat) = j := by rw [← he, tt_sw_out (fun z => by simp_all)]
          have hP9 : va_P D vwCl [(am 0, .inr (6, [.int ft, .ref (am 1), .int (nI cn), .ref (am 2), .int (nI tn), .ref (am 3), .ref (am 4), .ref (am 5), .ref (am 6), .ref (am 7), .ref (am 8), .int (nI mc), .int pl, .int 0, .int (nI fr), .int (nI j), .ref (am 9), .int (nI dn)])), (am 2, .inl (cB, 16384, .inl f))] H := hP.sub [0, 1] rfl
          have hD9 : va_D A [(am 0, .inr (6, [.int ft, .ref (am 1), .int (nI cn), .ref (am 2), .int (nI tn), .ref (am 3), .ref (am 4), .ref (am 5), .ref (am 6), .ref (am 7), .ref (am 8), .int (nI mc), .int pl, .int 0, .int (nI fr), .int (nI j), .ref (am 9), .int (nI dn)])), (am 2, .inl (cB, 16384, .inl f))] := hD.sub [0, 1] (by decide) rfl
          have hP9 : va_P D vwCl [(am 0, .inr (6, [.int ft, .ref (am 1), .int (nI cn), .ref (am 2), .int (nI tn), .ref (am 3), .ref (am 4), .ref (am 5), .ref (am 6), .ref (am 7), .ref (am 8), .int (nI mc), .int pl, .int (if x < tt_sw (fun j => tt_dig (tt_ch f tn j)) tn x then 0 else 7), .int (nI fr), .int (nI (tt_sw (fun j => tt_dig (tt_ch f tn j)) tn x)), .ref (am 9), .int (nI dn)])), (am 2, .inl (cB, 16384, .inl f))] H := by rw [o_tk2, o_tj2]; exact hP9
          have hD9 : va_D A [(am 0, .inr (6, [.int ft, .ref (am 1), .int (nI cn), .ref (am 2), .int (nI tn), .ref (am 3), .ref (am 4), .ref (am 5), .ref (am 6), .ref (am 7), .ref (am 8), .int (nI mc), .int pl, .int (if x < tt_sw (fun j => tt_dig (tt_ch f tn j)) tn x then 0 else 7), .int (nI fr), .int (nI (tt_sw (fun j => tt_dig (tt_ch f tn j)) tn x)), .ref (am 9), .int (nI dn)])), (am 2, .inl (cB, 16384, .inl f))] := by rw [o_tk2, o_tj2]; exact hD9
          exact W.vret hx hb hr (fun t ht hW => ⟨⟨(), rfl, trivial, by rw [ht]; exact hP9, hD9⟩, hS.F ht⟩) hS.2.2 d_MO_number_39
      · have c_10 := tt_bn0.mp c_10
        refine lv_iinc (v := nI (j + 1)) (lv' := [(2, .int (nI (j + 1))), (0, .ref (am 0)), (1, .int (nI x))]) hx hb d_MO_number_13 hl (k := 2) rfl (nI_add j 1) (by decide) rfl (fun ls hl => ?_)
        refine lv_goto (tgt := 2) hx hb d_MO_number_16 (by decide) ?_
        exact ih_2 (j + 1) (by have := tt_P_in tt_dig_m1 _ c_10; omega) (by have := tt_P_in tt_dig_m1 _ c_10; omega) (by rw [tt_sw_in (tt_P_in tt_dig_m1 _ c_10) c_10]; exact he) _ _ (hP.sub (ws' := [(am 0, .inr (6, [.int ft, .ref (am 1), .int (nI cn), .ref (am 2), .int (nI tn), .ref (am 3), .ref (am 4), .ref (am 5), .ref (am 6), .ref (am 7), .ref (am 8), .int (nI mc), .int pl, .int tk, .int (nI fr), .int (nI tj), .ref (am 9), .int (nI dn)])), (am 2, .inl (cB, 16384, .inl f))]) [0, 1] rfl) (hD.sub (ws' := [(am 0, .inr (6, [.int ft, .ref (am 1), .int (nI cn), .ref (am 2), .int (nI tn), .ref (am 3), .ref (am 4), .ref (am 5), .ref (am 6), .ref (am 7), .ref (am 8), .int (nI mc), .int pl, .int tk, .int (nI fr), .int (nI tj), .ref (am 9), .int (nI dn)])), (am 2, .inl (cB, 16384, .inl f))]) [0, 1] (by decide) rfl) hS ls (lv_sub hl [1, 2, 0] rfl)
  exact cut_2 _ x (Nat.lt_succ_self _) (by omega) (by rfl) _ _ (hP.sub (ws' := [(am 0, .inr (6, [.int ft, .ref (am 1), .int (nI cn), .ref (am 2), .int (nI tn), .ref (am 3), .ref (am 4), .ref (am 5), .ref (am 6), .ref (am 7), .ref (am 8), .int (nI mc), .int pl, .int tk, .int (nI fr), .int (nI tj), .ref (am 9), .int (nI dn)])), (am 2, .inl (cB, 16384, .inl f))]) [0, 1] rfl) (hD.sub (ws' := [(am 0, .inr (6, [.int ft, .ref (am 1), .int (nI cn), .ref (am 2), .int (nI tn), .ref (am 3), .ref (am 4), .ref (am 5), .ref (am 6), .ref (am 7), .ref (am 8), .int (nI mc), .int pl, .int tk, .int (nI fr), .int (nI tj), .ref (am 9), .int (nI dn)])), (am 2, .inl (cB, 16384, .inl f))]) [0, 1] (by decide) rfl) hS ls (lv_sub hl [1, 2, 0] rfl)
