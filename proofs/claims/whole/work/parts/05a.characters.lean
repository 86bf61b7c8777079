abbrev rm_CH_isDigit : Room := { frames := 0, cells := 0, slots := 0, locals := 0 }
abbrev q_CH_isDigit (D : va_G) (cI cB cL : ClassId) (x : Int32) : Array Value → State → Outcome → State → Prop := va_Qi (fun r9 (_ : Unit) => r9 = (tt_b (tt_dig x))) (fun _ _ => True) (fun _ => False)
set_option maxHeartbeats 4000000 in
set_option maxRecDepth 100000 in
theorem c_CH_isDigit (l : Launch) (D : va_G) (cI cB cL : ClassId) (x : Int32) : Met l y_CH_isDigit w_CH_isDigit rm_CH_isDigit (va_Pc [.int x] (fun U => va_P D vwCl [] U.heap ∧ va_K D vwCl (tt_ty cI cB cL) U)) (q_CH_isDigit D cI cB cL x) 0 0 (fun _ => False) := by
  refine Met.ofW (cc := b_CH_isDigit) (maxL := 1) (ret := (some .boolean)) (by decide) rfl ?_
  intro p e s m args below meth c s₁ B hml hv
  obtain ⟨rfl, hP, hK⟩ := hv
  have hx := B.exec
  have hb := B.bytes
  have hr := B.returns
  have hts := atoms_spec (ws := w_CH_isDigit) B.pre
  have htT : ∀ w ∈ tt_T, w.before _ s = true := fun w h => hts w (List.mem_cons_of_mem _ h)
  have hown : s.vm.findClass R_CH = some m.cls := findClass_of_methodNamed B.named
  have hlocks := B.notSynchronized
  have hS : va_S (fun _ => False) s.heap s.heap [] := va_S.rf
  have hl := lv_entry ([.int x]) (n := 1) (Nat.le_of_ble_eq_true rfl)
  rw [lg_entry_eq]
  generalize (lg_sl ([.int x]) ++ List.replicate (1 - (lg_sl ([.int x])).length) Slot.unset).toArray = ls at hl ⊢
  have hl : lv_has ls 1 [(0, .int x)] := hl
  have hP : va_P D vwCl [] s.heap := hP
  refine lv_iload_n hx hb d_CH_isDigit_0 rfl (lv_at hl 0 rfl) ?_
  refine lv_bipush (v := 48) hx hb d_CH_isDigit_1 (by decide) ?_
  refine lv_icmp_lt (tgt := 16) hx hb d_CH_isDigit_3 (by decide) (fun c_3 => ?_) (fun c_3 => ?_)
  · skip
    refine lv_iconst (v := 0) hx hb d_CH_isDigit_16 (by decide) ?_
    have o_r : (0 : Int32) = (tt_b (tt_dig x)) := by first | contradiction | (simp [tt_dig, tt_b, c_3] <;> (intros; omega))
    exact W.zret (ty := .boolean) (v := 0) hx hb hr (tt_nz o_r) (fun t ht hW => ⟨⟨_, (), rfl, o_r, trivial⟩, hS.F ht⟩) hS.2.2 d_CH_isDigit_17
  · skip
    refine lv_iload_n hx hb d_CH_isDigit_6 rfl (lv_at hl 0 rfl) ?_
    refine lv_bipush (v := 57) hx hb d_CH_isDigit_7 (by decide) ?_
    refine lv_icmp_gt (tgt := 16) hx hb d_CH_isDigit_9 (by decide) (fun c_9 => ?_) (fun c_9 => ?_)
    · skip
      refine lv_iconst (v := 0) hx hb d_CH_isDigit_16 (by decide) ?_
      have o_r : (0 : Int32) = (tt_b (tt_dig x)) := by first | contradiction | (simp [tt_dig, tt_b, c_3, c_9] <;> (intros; omega))
      exact W.zret (ty := .boolean) (v := 0) hx hb hr (tt_nz o_r) (fun t ht hW => ⟨⟨_, (), rfl, o_r, trivial⟩, hS.F ht⟩) hS.2.2 d_CH_isDigit_17
    · skip
      refine lv_iconst (v := 1) hx hb d_CH_isDigit_12 (by decide) ?_
      refine lv_goto (tgt := 17) hx hb d_CH_isDigit_13 (by decide) ?_
      have o_r : (1 : Int32) = (tt_b (tt_dig x)) := by first | contradiction | (simp [tt_dig, tt_b, c_3, c_9] <;> (intros; omega))
      exact W.zret (ty := .boolean) (v := 1) hx hb hr (tt_nz o_r) (fun t ht hW => ⟨⟨_, (), rfl, o_r, trivial⟩, hS.F ht⟩) hS.2.2 d_CH_isDigit_17
abbrev rm_CH_beginsWord : Room := { frames := 0, cells := 0, slots := 0, locals := 0 }
abbrev q_CH_beginsWord (D : va_G) (cI cB cL : ClassId) (x : Int32) : Array Value → State → Outcome → State → Prop := va_Qi (fun r9 (_ : Unit) => r9 = (tt_b (tt_let x))) (fun _ _ => True) (fun _ => False)
set_option maxHeartbeats 4000000 in
set_option maxRecDepth 100000 in
theorem c_CH_beginsWord (l : Launch) (D : va_G) (cI cB cL : ClassId) (x : Int32) : Met l y_CH_beginsWord w_CH_beginsWord rm_CH_beginsWord (va_Pc [.int x] (fun U => va_P D vwCl [] U.heap ∧ va_K D vwCl (tt_ty cI cB cL) U)) (q_CH_beginsWord D cI cB cL x) 0 0 (fun _ => False) := by
  refine Met.ofW (cc := b_CH_beginsWord) (maxL := 1) (ret := (some .boolean)) (by decide) rfl ?_
  intro p e s m args below meth c s₁ B hml hv
  obtain ⟨rfl, hP, hK⟩ := hv
  have hx := B.exec
  have hb := B.bytes
  have hr := B.returns
  have hts := atoms_spec (ws := w_CH_beginsWord) B.pre
  have htT : ∀ w ∈ tt_T, w.before _ s = true := fun w h => hts w (List.mem_cons_of_mem _ h)
  have hown : s.vm.findClass R_CH = some m.cls := findClass_of_methodNamed B.named
  have hlocks := B.notSynchronized
  have hS : va_S (fun _ => False) s.heap s.heap [] := va_S.rf
  have hl := lv_entry ([.int x]) (n := 1) (Nat.le_of_ble_eq_true rfl)
  rw [lg_entry_eq]
  generalize (lg_sl ([.int x]) ++ List.replicate (1 - (lg_sl ([.int x])).length) Slot.unset).toArray = ls at hl ⊢
  have hl : lv_has ls 1 [(0, .int x)] := hl
  have hP : va_P D vwCl [] s.heap := hP
  refine lv_iload_n hx hb d_CH_beginsWord_0 rfl (lv_at hl 0 rfl) ?_
  refine lv_bipush (v := 97) hx hb d_CH_beginsWord_1 (by decide) ?_
  refine lv_icmp_lt (tgt := 12) hx hb d_CH_beginsWord_3 (by decide) (fun c_3 => ?_) (fun c_3 => ?_)
  · skip
    refine lv_iload_n hx hb d_CH_beginsWord_12 rfl (lv_at hl 0 rfl) ?_
    refine lv_bipush (v := 65) hx hb d_CH_beginsWord_13 (by decide) ?_
    refine lv_icmp_lt (tgt := 24) hx hb d_CH_beginsWord_15 (by decide) (fun c_15 => ?_) (fun c_15 => ?_)
    · skip
      refine lv_iload_n hx hb d_CH_beginsWord_24 rfl (lv_at hl 0 rfl) ?_
      refine lv_bipush (v := 95) hx hb d_CH_beginsWord_25 (by decide) ?_
      refine lv_icmp_ne (tgt := 34) hx hb d_CH_beginsWord_27 (by decide) (fun c_27 => ?_) (fun c_27 => ?_)
      · skip
        refine lv_iconst (v := 0) hx hb d_CH_beginsWord_34 (by decide) ?_
        have o_r : (0 : Int32) = (tt_b (tt_let x)) := by first | contradiction | (simp [tt_let, tt_b, c_3, c_15, c_27] <;> (intros; omega))
        exact W.zret (ty := .boolean) (v := 0) hx hb hr (tt_nz o_r) (fun t ht hW => ⟨⟨_, (), rfl, o_r, trivial⟩, hS.F ht⟩) hS.2.2 d_CH_beginsWord_35
      · skip
        refine lv_iconst (v := 1) hx hb d_CH_beginsWord_30 (by decide) ?_
        refine lv_goto (tgt := 35) hx hb d_CH_beginsWord_31 (by decide) ?_
        have o_r : (1 : Int32) = (tt_b (tt_let x)) := by first | contradiction | (simp [tt_let, tt_b, c_3, c_15, eq_true c_27] <;> (intros; omega))
        exact W.zret (ty := .boolean) (v := 1) hx hb hr (tt_nz o_r) (fun t ht hW => ⟨⟨_, (), rfl, o_r, trivial⟩, hS.F ht⟩) hS.2.2 d_CH_beginsWord_35
    · skip
      refine lv_iload_n hx hb d_CH_beginsWord_18 rfl (lv_at hl 0 rfl) ?_
      refine lv_bipush (v := 90) hx hb d_CH_beginsWord_19 (by decide) ?_
      refine lv_icmp_le (tgt := 30) hx hb d_CH_beginsWord_21 (by decide) (fun c_21 => ?_) (fun c_21 => ?_)
      · skip
        refine lv_iconst (v := 1) hx hb d_CH_beginsWord_30 (by decide) ?_
        refine lv_goto (tgt := 35) hx hb d_CH_beginsWord_31 (by decide) ?_
        have o_r : (1 : Int32) = (tt_b (tt_let x)) := by first | contradiction | (simp [tt_let, tt_b, c_3, c_15, c_21] <;> (intros; omega))
        exact W.zret (ty := .boolean) (v := 1) hx hb hr (tt_nz o_r) (fun t ht hW => ⟨⟨_, (), rfl, o_r, trivial⟩, hS.F ht⟩) hS.2.2 d_CH_beginsWord_35
      · skip
        refine lv_iload_n hx hb d_CH_beginsWord_24 rfl (lv_at hl 0 rfl) ?_
        refine lv_bipush (v := 95) hx hb d_CH_beginsWord_25 (by decide) ?_
        refine lv_icmp_ne (tgt := 34) hx hb d_CH_beginsWord_27 (by decide) (fun c_27 => ?_) (fun c_27 => ?_)
        · skip
          refine lv_iconst (v := 0) hx hb d_CH_beginsWord_34 (by decide) ?_
          have o_r : (0 : Int32) = (tt_b (tt_let x)) := by first | contradiction | (simp [tt_let, tt_b, c_3, c_15, c_21, c_27] <;> (intros; omega))
          exact W.zret (ty := .boolean) (v := 0) hx hb hr (tt_nz o_r) (fun t ht hW => ⟨⟨_, (), rfl, o_r, trivial⟩, hS.F ht⟩) hS.2.2 d_CH_beginsWord_35
        · skip
          refine lv_iconst (v := 1) hx hb d_CH_beginsWord_30 (by decide) ?_
          refine lv_goto (tgt := 35) hx hb d_CH_beginsWord_31 (by decide) ?_
          have o_r : (1 : Int32) = (tt_b (tt_let x)) := by first | contradiction | (simp [tt_let, tt_b, c_3, c_15, c_21, eq_true c_27] <;> (intros; omega))
          exact W.zret (ty := .boolean) (v := 1) hx hb hr (tt_nz o_r) (fun t ht hW => ⟨⟨_, (), rfl, o_r, trivial⟩, hS.F ht⟩) hS.2.2 d_CH_beginsWord_35
  · skip
    refine lv_iload_n hx hb d_CH_beginsWord_6 rfl (lv_at hl 0 rfl) ?_
    refine lv_bipush (v := 122) hx hb d_CH_beginsWord_7 (by decide) ?_
    refine lv_icmp_le (tgt := 30) hx hb d_CH_beginsWord_9 (by decide) (fun c_9 => ?_) (fun c_9 => ?_)
    · skip
      refine lv_iconst (v := 1) hx hb d_CH_beginsWord_30 (by decide) ?_
      refine lv_goto (tgt := 35) hx hb d_CH_beginsWord_31 (by decide) ?_
      have o_r : (1 : Int32) = (tt_b (tt_let x)) := by first | contradiction | (simp [tt_let, tt_b, c_3, c_9] <;> (intros; omega))
      exact W.zret (ty := .boolean) (v := 1) hx hb hr (tt_nz o_r) (fun t ht hW => ⟨⟨_, (), rfl, o_r, trivial⟩, hS.F ht⟩) hS.2.2 d_CH_beginsWord_35
    · skip
      refine lv_iload_n hx hb d_CH_beginsWord_12 rfl (lv_at hl 0 rfl) ?_
      refine lv_bipush (v := 65) hx hb d_CH_beginsWord_13 (by decide) ?_
      refine lv_icmp_lt (tgt := 24) hx hb d_CH_beginsWord_15 (by decide) (fun c_15 => ?_) (fun c_15 => ?_)
      · skip
        refine lv_iload_n hx hb d_CH_beginsWord_24 rfl (lv_at hl 0 rfl) ?_
        refine lv_bipush (v := 95) hx hb d_CH_beginsWord_25 (by decide) ?_
        refine lv_icmp_ne (tgt := 34) hx hb d_CH_beginsWord_27 (by decide) (fun c_27 => ?_) (fun c_27 => ?_)
        · skip
          refine lv_iconst (v := 0) hx hb d_CH_beginsWord_34 (by decide) ?_
          have o_r : (0 : Int32) = (tt_b (tt_let x)) := by first | contradiction | (simp [tt_let, tt_b, c_3, c_9, c_15, c_27] <;> (intros; omega))
          exact W.zret (ty := .boolean) (v := 0) hx hb hr (tt_nz o_r) (fun t ht hW => ⟨⟨_, (), rfl, o_r, trivial⟩, hS.F ht⟩) hS.2.2 d_CH_beginsWord_35
        · skip
          refine lv_iconst (v := 1) hx hb d_CH_beginsWord_30 (by decide) ?_
          refine lv_goto (tgt := 35) hx hb d_CH_beginsWord_31 (by decide) ?_
          have o_r : (1 : Int32) = (tt_b (tt_let x)) := by first | contradiction | (simp [tt_let, tt_b, c_3, c_9, c_15, eq_true c_27] <;> (intros; omega))
          exact W.zret (ty := .boolean) (v := 1) hx hb hr (tt_nz o_r) (fun t ht hW => ⟨⟨_, (), rfl, o_r, trivial⟩, hS.F ht⟩) hS.2.2 d_CH_beginsWord_35
      · skip
        refine lv_iload_n hx hb d_CH_beginsWord_18 rfl (lv_at hl 0 rfl) ?_
        refine lv_bipush (v := 90) hx hb d_CH_beginsWord_19 (by decide) ?_
        refine lv_icmp_le (tgt := 30) hx hb d_CH_beginsWord_21 (by decide) (fun c_21 => ?_) (fun c_21 => ?_)
        · skip
          refine lv_iconst (v := 1) hx hb d_CH_beginsWord_30 (by decide) ?_
          refine lv_goto (tgt := 35) hx hb d_CH_beginsWord_31 (by decide) ?_
          have o_r : (1 : Int32) = (tt_b (tt_let x)) := by first | contradiction | (simp [tt_let, tt_b, c_3, c_9, c_15, c_21] <;> (intros; omega))
          exact W.zret (ty := .boolean) (v := 1) hx hb hr (tt_nz o_r) (fun t ht hW => ⟨⟨_, (), rfl, o_r, trivial⟩, hS.F ht⟩) hS.2.2 d_CH_beginsWord_35
        · skip
          refine lv_iload_n hx hb d_CH_beginsWord_24 rfl (lv_at hl 0 rfl) ?_
          refine lv_bipush (v := 95) hx hb d_CH_beginsWord_25 (by decide) ?_
          refine lv_icmp_ne (tgt := 34) hx hb d_CH_beginsWord_27 (by decide) (fun c_27 => ?_) (fun c_27 => ?_)
          · skip
            refine lv_iconst (v := 0) hx hb d_CH_beginsWord_34 (by decide) ?_
            have o_r : (0 : Int32) = (tt_b (tt_let x)) := by first | contradiction | (simp [tt_let, tt_b, c_3, c_9, c_15, c_21, c_27] <;> (intros; omega))
            exact W.zret (ty := .boolean) (v := 0) hx hb hr (tt_nz o_r) (fun t ht hW => ⟨⟨_, (), rfl, o_r, trivial⟩, hS.F ht⟩) hS.2.2 d_CH_beginsWord_35
          · skip
            refine lv_iconst (v := 1) hx hb d_CH_beginsWord_30 (by decide) ?_
            refine lv_goto (tgt := 35) hx hb d_CH_beginsWord_31 (by decide) ?_
            have o_r : (1 : Int32) = (tt_b (tt_let x)) := by first | contradiction | (simp [tt_let, tt_b, c_3, c_9, c_15, c_21, eq_true c_27] <;> (intros; omega))
            exact W.zret (ty := .boolean) (v := 1) hx hb hr (tt_nz o_r) (fun t ht hW => ⟨⟨_, (), rfl, o_r, trivial⟩, hS.F ht⟩) hS.2.2 d_CH_beginsWord_35
abbrev rm_CH_isBlank : Room := { frames := 0, cells := 0, slots := 0, locals := 0 }
abbrev q_CH_isBlank (D : va_G) (cI cB cL : ClassId) (x : Int32) : Array Value → State → Outcome → State → Prop := va_Qi (fun r9 (_ : Unit) => r9 = (tt_b (tt_blk x))) (fun _ _ => True) (fun _ => False)
set_option maxHeartbeats 4000000 in
set_option maxRecDepth 100000 in
theorem c_CH_isBlank (l : Launch) (D : va_G) (cI cB cL : ClassId) (x : Int32) : Met l y_CH_isBlank w_CH_isBlank rm_CH_isBlank (va_Pc [.int x] (fun U => va_P D vwCl [] U.heap ∧ va_K D vwCl (tt_ty cI cB cL) U)) (q_CH_isBlank D cI cB cL x) 0 0 (fun _ => False) := by
  refine Met.ofW (cc := b_CH_isBlank) (maxL := 1) (ret := (some .boolean)) (by decide) rfl ?_
  intro p e s m args below meth c s₁ B hml hv
  obtain ⟨rfl, hP, hK⟩ := hv
  have hx := B.exec
  have hb := B.bytes
  have hr := B.returns
  have hts := atoms_spec (ws := w_CH_isBlank) B.pre
  have htT : ∀ w ∈ tt_T, w.before _ s = true := fun w h => hts w (List.mem_cons_of_mem _ h)
  have hown : s.vm.findClass R_CH = some m.cls := findClass_of_methodNamed B.named
  have hlocks := B.notSynchronized
  have hS : va_S (fun _ => False) s.heap s.heap [] := va_S.rf
  have hl := lv_entry ([.int x]) (n := 1) (Nat.le_of_ble_eq_true rfl)
  rw [lg_entry_eq]
  generalize (lg_sl ([.int x]) ++ List.replicate (1 - (lg_sl ([.int x])).length) Slot.unset).toArray = ls at hl ⊢
  have hl : lv_has ls 1 [(0, .int x)] := hl
  have hP : va_P D vwCl [] s.heap := hP
  refine lv_iload_n hx hb d_CH_isBlank_0 rfl (lv_at hl 0 rfl) ?_
  refine lv_bipush (v := 32) hx hb d_CH_isBlank_1 (by decide) ?_
  refine lv_icmp_eq (tgt := 24) hx hb d_CH_isBlank_3 (by decide) (fun c_3 => ?_) (fun c_3 => ?_)
  · skip
    refine lv_iconst (v := 1) hx hb d_CH_isBlank_24 (by decide) ?_
    refine lv_goto (tgt := 29) hx hb d_CH_isBlank_25 (by decide) ?_
    have o_r : (1 : Int32) = (tt_b (tt_blk x)) := by first | contradiction | (simp [tt_blk, tt_b, eq_true c_3] <;> (intros; omega))
    exact W.zret (ty := .boolean) (v := 1) hx hb hr (tt_nz o_r) (fun t ht hW => ⟨⟨_, (), rfl, o_r, trivial⟩, hS.F ht⟩) hS.2.2 d_CH_isBlank_29
  · skip
    refine lv_iload_n hx hb d_CH_isBlank_6 rfl (lv_at hl 0 rfl) ?_
    refine lv_bipush (v := 9) hx hb d_CH_isBlank_7 (by decide) ?_
    refine lv_icmp_eq (tgt := 24) hx hb d_CH_isBlank_9 (by decide) (fun c_9 => ?_) (fun c_9 => ?_)
    · skip
      refine lv_iconst (v := 1) hx hb d_CH_isBlank_24 (by decide) ?_
      refine lv_goto (tgt := 29) hx hb d_CH_isBlank_25 (by decide) ?_
      have o_r : (1 : Int32) = (tt_b (tt_blk x)) := by first | contradiction | (simp [tt_blk, tt_b, c_3, eq_true c_9] <;> (intros; omega))
      exact W.zret (ty := .boolean) (v := 1) hx hb hr (tt_nz o_r) (fun t ht hW => ⟨⟨_, (), rfl, o_r, trivial⟩, hS.F ht⟩) hS.2.2 d_CH_isBlank_29
    · skip
      refine lv_iload_n hx hb d_CH_isBlank_12 rfl (lv_at hl 0 rfl) ?_
      refine lv_bipush (v := 10) hx hb d_CH_isBlank_13 (by decide) ?_
      refine lv_icmp_eq (tgt := 24) hx hb d_CH_isBlank_15 (by decide) (fun c_15 => ?_) (fun c_15 => ?_)
      · skip
        refine lv_iconst (v := 1) hx hb d_CH_isBlank_24 (by decide) ?_
        refine lv_goto (tgt := 29) hx hb d_CH_isBlank_25 (by decide) ?_
        have o_r : (1 : Int32) = (tt_b (tt_blk x)) := by first | contradiction | (simp [tt_blk, tt_b, c_3, c_9, eq_true c_15] <;> (intros; omega))
        exact W.zret (ty := .boolean) (v := 1) hx hb hr (tt_nz o_r) (fun t ht hW => ⟨⟨_, (), rfl, o_r, trivial⟩, hS.F ht⟩) hS.2.2 d_CH_isBlank_29
      · skip
        refine lv_iload_n hx hb d_CH_isBlank_18 rfl (lv_at hl 0 rfl) ?_
        refine lv_bipush (v := 13) hx hb d_CH_isBlank_19 (by decide) ?_
        refine lv_icmp_ne (tgt := 28) hx hb d_CH_isBlank_21 (by decide) (fun c_21 => ?_) (fun c_21 => ?_)
        · skip
          refine lv_iconst (v := 0) hx hb d_CH_isBlank_28 (by decide) ?_
          have o_r : (0 : Int32) = (tt_b (tt_blk x)) := by first | contradiction | (simp [tt_blk, tt_b, c_3, c_9, c_15, c_21] <;> (intros; omega))
          exact W.zret (ty := .boolean) (v := 0) hx hb hr (tt_nz o_r) (fun t ht hW => ⟨⟨_, (), rfl, o_r, trivial⟩, hS.F ht⟩) hS.2.2 d_CH_isBlank_29
        · skip
          refine lv_iconst (v := 1) hx hb d_CH_isBlank_24 (by decide) ?_
          refine lv_goto (tgt := 29) hx hb d_CH_isBlank_25 (by decide) ?_
          have o_r : (1 : Int32) = (tt_b (tt_blk x)) := by first | contradiction | (simp [tt_blk, tt_b, c_3, c_9, c_15, eq_true c_21] <;> (intros; omega))
          exact W.zret (ty := .boolean) (v := 1) hx hb hr (tt_nz o_r) (fun t ht hW => ⟨⟨_, (), rfl, o_r, trivial⟩, hS.F ht⟩) hS.2.2 d_CH_isBlank_29
abbrev rm_CH_isSign : Room := { frames := 0, cells := 0, slots := 0, locals := 0 }
abbrev q_CH_isSign (D : va_G) (cI cB cL : ClassId) (x : Int32) : Array Value → State → Outcome → State → Prop := va_Qi (fun r9 (_ : Unit) => r9 = (tt_b (tt_sgn x))) (fun _ _ => True) (fun _ => False)
set_option maxHeartbeats 4000000 in
set_option maxRecDepth 100000 in
theorem c_CH_isSign (l : Launch) (D : va_G) (cI cB cL : ClassId) (x : Int32) : Met l y_CH_isSign w_CH_isSign rm_CH_isSign (va_Pc [.int x] (fun U => va_P D vwCl [] U.heap ∧ va_K D vwCl (tt_ty cI cB cL) U)) (q_CH_isSign D cI cB cL x) 0 0 (fun _ => False) := by
  refine Met.ofW (cc := b_CH_isSign) (maxL := 1) (ret := (some .boolean)) (by decide) rfl ?_
  intro p e s m args below meth c s₁ B hml hv
  obtain ⟨rfl, hP, hK⟩ := hv
  have hx := B.exec
  have hb := B.bytes
  have hr := B.returns
  have hts := atoms_spec (ws := w_CH_isSign) B.pre
  have htT : ∀ w ∈ tt_T, w.before _ s = true := fun w h => hts w (List.mem_cons_of_mem _ h)
  have hown : s.vm.findClass R_CH = some m.cls := findClass_of_methodNamed B.named
  have hlocks := B.notSynchronized
  have hS : va_S (fun _ => False) s.heap s.heap [] := va_S.rf
  have hl := lv_entry ([.int x]) (n := 1) (Nat.le_of_ble_eq_true rfl)
  rw [lg_entry_eq]
  generalize (lg_sl ([.int x]) ++ List.replicate (1 - (lg_sl ([.int x])).length) Slot.unset).toArray = ls at hl ⊢
  have hl : lv_has ls 1 [(0, .int x)] := hl
  have hP : va_P D vwCl [] s.heap := hP
  refine lv_iload_n hx hb d_CH_isSign_0 rfl (lv_at hl 0 rfl) ?_
  refine lv_bipush (v := 123) hx hb d_CH_isSign_1 (by decide) ?_
  refine lv_icmp_eq (tgt := 30) hx hb d_CH_isSign_3 (by decide) (fun c_3 => ?_) (fun c_3 => ?_)
  · skip
    refine lv_iconst (v := 1) hx hb d_CH_isSign_30 (by decide) ?_
    refine lv_goto (tgt := 35) hx hb d_CH_isSign_31 (by decide) ?_
    have o_r : (1 : Int32) = (tt_b (tt_sgn x)) := by first | contradiction | (simp [tt_sgn, tt_b, eq_true c_3] <;> (intros; omega))
    exact W.zret (ty := .boolean) (v := 1) hx hb hr (tt_nz o_r) (fun t ht hW => ⟨⟨_, (), rfl, o_r, trivial⟩, hS.F ht⟩) hS.2.2 d_CH_isSign_35
  · skip
    refine lv_iload_n hx hb d_CH_isSign_6 rfl (lv_at hl 0 rfl) ?_
    refine lv_bipush (v := 125) hx hb d_CH_isSign_7 (by decide) ?_
    refine lv_icmp_eq (tgt := 30) hx hb d_CH_isSign_9 (by decide) (fun c_9 => ?_) (fun c_9 => ?_)
    · skip
      refine lv_iconst (v := 1) hx hb d_CH_isSign_30 (by decide) ?_
      refine lv_goto (tgt := 35) hx hb d_CH_isSign_31 (by decide) ?_
      have o_r : (1 : Int32) = (tt_b (tt_sgn x)) := by first | contradiction | (simp [tt_sgn, tt_b, c_3, eq_true c_9] <;> (intros; omega))
      exact W.zret (ty := .boolean) (v := 1) hx hb hr (tt_nz o_r) (fun t ht hW => ⟨⟨_, (), rfl, o_r, trivial⟩, hS.F ht⟩) hS.2.2 d_CH_isSign_35
    · skip
      refine lv_iload_n hx hb d_CH_isSign_12 rfl (lv_at hl 0 rfl) ?_
      refine lv_bipush (v := 40) hx hb d_CH_isSign_13 (by decide) ?_
      refine lv_icmp_eq (tgt := 30) hx hb d_CH_isSign_15 (by decide) (fun c_15 => ?_) (fun c_15 => ?_)
      · skip
        refine lv_iconst (v := 1) hx hb d_CH_isSign_30 (by decide) ?_
        refine lv_goto (tgt := 35) hx hb d_CH_isSign_31 (by decide) ?_
        have o_r : (1 : Int32) = (tt_b (tt_sgn x)) := by first | contradiction | (simp [tt_sgn, tt_b, c_3, c_9, eq_true c_15] <;> (intros; omega))
        exact W.zret (ty := .boolean) (v := 1) hx hb hr (tt_nz o_r) (fun t ht hW => ⟨⟨_, (), rfl, o_r, trivial⟩, hS.F ht⟩) hS.2.2 d_CH_isSign_35
      · skip
        refine lv_iload_n hx hb d_CH_isSign_18 rfl (lv_at hl 0 rfl) ?_
        refine lv_bipush (v := 41) hx hb d_CH_isSign_19 (by decide) ?_
        refine lv_icmp_eq (tgt := 30) hx hb d_CH_isSign_21 (by decide) (fun c_21 => ?_) (fun c_21 => ?_)
        · skip
          refine lv_iconst (v := 1) hx hb d_CH_isSign_30 (by decide) ?_
          refine lv_goto (tgt := 35) hx hb d_CH_isSign_31 (by decide) ?_
          have o_r : (1 : Int32) = (tt_b (tt_sgn x)) := by first | contradiction | (simp [tt_sgn, tt_b, c_3, c_9, c_15, eq_true c_21] <;> (intros; omega))
          exact W.zret (ty := .boolean) (v := 1) hx hb hr (tt_nz o_r) (fun t ht hW => ⟨⟨_, (), rfl, o_r, trivial⟩, hS.F ht⟩) hS.2.2 d_CH_isSign_35
        · skip
          refine lv_iload_n hx hb d_CH_isSign_24 rfl (lv_at hl 0 rfl) ?_
          refine lv_bipush (v := 59) hx hb d_CH_isSign_25 (by decide) ?_
          refine lv_icmp_ne (tgt := 34) hx hb d_CH_isSign_27 (by decide) (fun c_27 => ?_) (fun c_27 => ?_)
          · skip
            refine lv_iconst (v := 0) hx hb d_CH_isSign_34 (by decide) ?_
            have o_r : (0 : Int32) = (tt_b (tt_sgn x)) := by first | contradiction | (simp [tt_sgn, tt_b, c_3, c_9, c_15, c_21, c_27] <;> (intros; omega))
            exact W.zret (ty := .boolean) (v := 0) hx hb hr (tt_nz o_r) (fun t ht hW => ⟨⟨_, (), rfl, o_r, trivial⟩, hS.F ht⟩) hS.2.2 d_CH_isSign_35
          · skip
            refine lv_iconst (v := 1) hx hb d_CH_isSign_30 (by decide) ?_
            refine lv_goto (tgt := 35) hx hb d_CH_isSign_31 (by decide) ?_
            have o_r : (1 : Int32) = (tt_b (tt_sgn x)) := by first | contradiction | (simp [tt_sgn, tt_b, c_3, c_9, c_15, c_21, eq_true c_27] <;> (intros; omega))
            exact W.zret (ty := .boolean) (v := 1) hx hb hr (tt_nz o_r) (fun t ht hW => ⟨⟨_, (), rfl, o_r, trivial⟩, hS.F ht⟩) hS.2.2 d_CH_isSign_35
abbrev rm_CH_standsInString : Room := { frames := 0, cells := 0, slots := 0, locals := 0 }
abbrev q_CH_standsInString (D : va_G) (cI cB cL : ClassId) (x : Int32) : Array Value → State → Outcome → State → Prop := va_Qi (fun r9 (_ : Unit) => r9 = (tt_b (tt_sts x))) (fun _ _ => True) (fun _ => False)
set_option maxHeartbeats 4000000 in
set_option maxRecDepth 100000 in
theorem c_CH_standsInString (l : Launch) (D : va_G) (cI cB cL : ClassId) (x : Int32) : Met l y_CH_standsInString w_CH_standsInString rm_CH_standsInString (va_Pc [.int x] (fun U => va_P D vwCl [] U.heap ∧ va_K D vwCl (tt_ty cI cB cL) U)) (q_CH_standsInString D cI cB cL x) 0 0 (fun _ => False) := by
  refine Met.ofW (cc := b_CH_standsInString) (maxL := 1) (ret := (some .boolean)) (by decide) rfl ?_
  intro p e s m args below meth c s₁ B hml hv
  obtain ⟨rfl, hP, hK⟩ := hv
  have hx := B.exec
  have hb := B.bytes
  have hr := B.returns
  have hts := atoms_spec (ws := w_CH_standsInString) B.pre
  have htT : ∀ w ∈ tt_T, w.before _ s = true := fun w h => hts w (List.mem_cons_of_mem _ h)
  have hown : s.vm.findClass R_CH = some m.cls := findClass_of_methodNamed B.named
  have hlocks := B.notSynchronized
  have hS : va_S (fun _ => False) s.heap s.heap [] := va_S.rf
  have hl := lv_entry ([.int x]) (n := 1) (Nat.le_of_ble_eq_true rfl)
  rw [lg_entry_eq]
  generalize (lg_sl ([.int x]) ++ List.replicate (1 - (lg_sl ([.int x])).length) Slot.unset).toArray = ls at hl ⊢
  have hl : lv_has ls 1 [(0, .int x)] := hl
  have hP : va_P D vwCl [] s.heap := hP
  refine lv_iload_n hx hb d_CH_standsInString_0 rfl (lv_at hl 0 rfl) ?_
  refine lv_bipush (v := 32) hx hb d_CH_standsInString_1 (by decide) ?_
  refine lv_icmp_lt (tgt := 28) hx hb d_CH_standsInString_3 (by decide) (fun c_3 => ?_) (fun c_3 => ?_)
  · skip
    refine lv_iconst (v := 0) hx hb d_CH_standsInString_28 (by decide) ?_
    have o_r : (0 : Int32) = (tt_b (tt_sts x)) := by first | contradiction | (simp [tt_sts, tt_b, c_3] <;> (intros; omega))
    exact W.zret (ty := .boolean) (v := 0) hx hb hr (tt_nz o_r) (fun t ht hW => ⟨⟨_, (), rfl, o_r, trivial⟩, hS.F ht⟩) hS.2.2 d_CH_standsInString_29
  · skip
    refine lv_iload_n hx hb d_CH_standsInString_6 rfl (lv_at hl 0 rfl) ?_
    refine lv_bipush (v := 126) hx hb d_CH_standsInString_7 (by decide) ?_
    refine lv_icmp_gt (tgt := 28) hx hb d_CH_standsInString_9 (by decide) (fun c_9 => ?_) (fun c_9 => ?_)
    · skip
      refine lv_iconst (v := 0) hx hb d_CH_standsInString_28 (by decide) ?_
      have o_r : (0 : Int32) = (tt_b (tt_sts x)) := by first | contradiction | (simp [tt_sts, tt_b, c_3, c_9] <;> (intros; omega))
      exact W.zret (ty := .boolean) (v := 0) hx hb hr (tt_nz o_r) (fun t ht hW => ⟨⟨_, (), rfl, o_r, trivial⟩, hS.F ht⟩) hS.2.2 d_CH_standsInString_29
    · skip
      refine lv_iload_n hx hb d_CH_standsInString_12 rfl (lv_at hl 0 rfl) ?_
      refine lv_bipush (v := 34) hx hb d_CH_standsInString_13 (by decide) ?_
      refine lv_icmp_eq (tgt := 28) hx hb d_CH_standsInString_15 (by decide) (fun c_15 => ?_) (fun c_15 => ?_)
      · skip
        refine lv_iconst (v := 0) hx hb d_CH_standsInString_28 (by decide) ?_
        have o_r : (0 : Int32) = (tt_b (tt_sts x)) := by first | contradiction | (simp [tt_sts, tt_b, c_3, c_9, eq_true c_15] <;> (intros; omega))
        exact W.zret (ty := .boolean) (v := 0) hx hb hr (tt_nz o_r) (fun t ht hW => ⟨⟨_, (), rfl, o_r, trivial⟩, hS.F ht⟩) hS.2.2 d_CH_standsInString_29
      · skip
        refine lv_iload_n hx hb d_CH_standsInString_18 rfl (lv_at hl 0 rfl) ?_
        refine lv_bipush (v := 92) hx hb d_CH_standsInString_19 (by decide) ?_
        refine lv_icmp_eq (tgt := 28) hx hb d_CH_standsInString_21 (by decide) (fun c_21 => ?_) (fun c_21 => ?_)
        · skip
          refine lv_iconst (v := 0) hx hb d_CH_standsInString_28 (by decide) ?_
          have o_r : (0 : Int32) = (tt_b (tt_sts x)) := by first | contradiction | (simp [tt_sts, tt_b, c_3, c_9, c_15, eq_true c_21] <;> (intros; omega))
          exact W.zret (ty := .boolean) (v := 0) hx hb hr (tt_nz o_r) (fun t ht hW => ⟨⟨_, (), rfl, o_r, trivial⟩, hS.F ht⟩) hS.2.2 d_CH_standsInString_29
        · skip
          refine lv_iconst (v := 1) hx hb d_CH_standsInString_24 (by decide) ?_
          refine lv_goto (tgt := 29) hx hb d_CH_standsInString_25 (by decide) ?_
          have o_r : (1 : Int32) = (tt_b (tt_sts x)) := by first | contradiction | (simp [tt_sts, tt_b, c_3, c_9, c_15, c_21] <;> (intros; omega))
          exact W.zret (ty := .boolean) (v := 1) hx hb hr (tt_nz o_r) (fun t ht hW => ⟨⟨_, (), rfl, o_r, trivial⟩, hS.F ht⟩) hS.2.2 d_CH_standsInString_29
abbrev rm_CH_escaped : Room := { frames := 0, cells := 0, slots := 0, locals := 0 }
abbrev q_CH_escaped (D : va_G) (cI cB cL : ClassId) (x : Int32) : Array Value → State → Outcome → State → Prop := va_Qi (fun r9 (_ : Unit) => r9 = (tt_esc x)) (fun _ _ => True) (fun _ => False)
set_option maxHeartbeats 4000000 in
set_option maxRecDepth 100000 in
theorem c_CH_escaped (l : Launch) (D : va_G) (cI cB cL : ClassId) (x : Int32) : Met l y_CH_escaped w_CH_escaped rm_CH_escaped (va_Pc [.int x] (fun U => va_P D vwCl [] U.heap ∧ va_K D vwCl (tt_ty cI cB cL) U)) (q_CH_escaped D cI cB cL x) 0 0 (fun _ => False) := by
  refine Met.ofW (cc := b_CH_escaped) (maxL := 1) (ret := (some .int)) (by decide) rfl ?_
  intro p e s m args below meth c s₁ B hml hv
  obtain ⟨rfl, hP, hK⟩ := hv
  have hx := B.exec
  have hb := B.bytes
  have hr := B.returns
  have hts := atoms_spec (ws := w_CH_escaped) B.pre
  have htT : ∀ w ∈ tt_T, w.before _ s = true := fun w h => hts w (List.mem_cons_of_mem _ h)
  have hown : s.vm.findClass R_CH = some m.cls := findClass_of_methodNamed B.named
  have hlocks := B.notSynchronized
  have hS : va_S (fun _ => False) s.heap s.heap [] := va_S.rf
  have hl := lv_entry ([.int x]) (n := 1) (Nat.le_of_ble_eq_true rfl)
  rw [lg_entry_eq]
  generalize (lg_sl ([.int x]) ++ List.replicate (1 - (lg_sl ([.int x])).length) Slot.unset).toArray = ls at hl ⊢
  have hl : lv_has ls 1 [(0, .int x)] := hl
  have hP : va_P D vwCl [] s.heap := hP
  refine lv_iload_n hx hb d_CH_escaped_0 rfl (lv_at hl 0 rfl) ?_
  refine lv_bipush (v := 110) hx hb d_CH_escaped_1 (by decide) ?_
  refine lv_icmp_ne (tgt := 9) hx hb d_CH_escaped_3 (by decide) (fun c_3 => ?_) (fun c_3 => ?_)
  · skip
    refine lv_iload_n hx hb d_CH_escaped_9 rfl (lv_at hl 0 rfl) ?_
    refine lv_bipush (v := 34) hx hb d_CH_escaped_10 (by decide) ?_
    refine lv_icmp_eq (tgt := 21) hx hb d_CH_escaped_12 (by decide) (fun c_12 => ?_) (fun c_12 => ?_)
    · skip
      refine lv_iload_n hx hb d_CH_escaped_21 rfl (lv_at hl 0 rfl) ?_
      refine lv_goto (tgt := 26) hx hb d_CH_escaped_22 (by decide) ?_
      have o_r : x = (tt_esc x) := by first | contradiction | (simp [tt_esc, tt_b, c_3, eq_true c_12] <;> (intros; omega))
      exact W.iret (v := x) hx hb hr (fun t ht hW => ⟨⟨_, (), rfl, o_r, trivial⟩, hS.F ht⟩) hS.2.2 d_CH_escaped_26
    · skip
      refine lv_iload_n hx hb d_CH_escaped_15 rfl (lv_at hl 0 rfl) ?_
      refine lv_bipush (v := 92) hx hb d_CH_escaped_16 (by decide) ?_
      refine lv_icmp_ne (tgt := 25) hx hb d_CH_escaped_18 (by decide) (fun c_18 => ?_) (fun c_18 => ?_)
      · skip
        refine lv_iconst (v := (-1)) hx hb d_CH_escaped_25 (by decide) ?_
        have o_r : ((-1) : Int32) = (tt_esc x) := by first | contradiction | (simp [tt_esc, tt_b, c_3, c_12, c_18] <;> (intros; omega))
        exact W.iret (v := (-1)) hx hb hr (fun t ht hW => ⟨⟨_, (), rfl, o_r, trivial⟩, hS.F ht⟩) hS.2.2 d_CH_escaped_26
      · skip
        refine lv_iload_n hx hb d_CH_escaped_21 rfl (lv_at hl 0 rfl) ?_
        refine lv_goto (tgt := 26) hx hb d_CH_escaped_22 (by decide) ?_
        have o_r : x = (tt_esc x) := by first | contradiction | (simp [tt_esc, tt_b, c_3, c_12, eq_true c_18] <;> (intros; omega))
        exact W.iret (v := x) hx hb hr (fun t ht hW => ⟨⟨_, (), rfl, o_r, trivial⟩, hS.F ht⟩) hS.2.2 d_CH_escaped_26
  · skip
    refine lv_bipush (v := 10) hx hb d_CH_escaped_6 (by decide) ?_
    have o_r : (10 : Int32) = (tt_esc x) := by first | contradiction | (simp [tt_esc, tt_b, eq_true c_3] <;> (intros; omega))
    exact W.iret (v := 10) hx hb hr (fun t ht hW => ⟨⟨_, (), rfl, o_r, trivial⟩, hS.F ht⟩) hS.2.2 d_CH_escaped_8
abbrev rm_CH_hexValue : Room := { frames := 0, cells := 0, slots := 0, locals := 0 }
abbrev q_CH_hexValue (D : va_G) (cI cB cL : ClassId) (x : Int32) : Array Value → State → Outcome → State → Prop := va_Qi (fun r9 (_ : Unit) => r9 = (tt_hex x)) (fun _ _ => True) (fun _ => False)
set_option maxHeartbeats 4000000 in
set_option maxRecDepth 100000 in
theorem c_CH_hexValue (l : Launch) (D : va_G) (cI cB cL : ClassId) (x : Int32) : Met l y_CH_hexValue w_CH_hexValue rm_CH_hexValue (va_Pc [.int x] (fun U => va_P D vwCl [] U.heap ∧ va_K D vwCl (tt_ty cI cB cL) U)) (q_CH_hexValue D cI cB cL x) 0 0 (fun _ => False) := by
  refine Met.ofW (cc := b_CH_hexValue) (maxL := 1) (ret := (some .int)) (by decide) rfl ?_
  intro p e s m args below meth c s₁ B hml hv
  obtain ⟨rfl, hP, hK⟩ := hv
  have hx := B.exec
  have hb := B.bytes
  have hr := B.returns
  have hts := atoms_spec (ws := w_CH_hexValue) B.pre
  have htT : ∀ w ∈ tt_T, w.before _ s = true := fun w h => hts w (List.mem_cons_of_mem _ h)
  have hown : s.vm.findClass R_CH = some m.cls := findClass_of_methodNamed B.named
  have hlocks := B.notSynchronized
  have hS : va_S (fun _ => False) s.heap s.heap [] := va_S.rf
  have hl := lv_entry ([.int x]) (n := 1) (Nat.le_of_ble_eq_true rfl)
  rw [lg_entry_eq]
  generalize (lg_sl ([.int x]) ++ List.replicate (1 - (lg_sl ([.int x])).length) Slot.unset).toArray = ls at hl ⊢
  have hl : lv_has ls 1 [(0, .int x)] := hl
  have hP : va_P D vwCl [] s.heap := hP
  refine lv_iload_n hx hb d_CH_hexValue_0 rfl (lv_at hl 0 rfl) ?_
  refine lv_bipush (v := 48) hx hb d_CH_hexValue_1 (by decide) ?_
  refine lv_icmp_lt (tgt := 17) hx hb d_CH_hexValue_3 (by decide) (fun c_3 => ?_) (fun c_3 => ?_)
  · skip
    refine lv_iload_n hx hb d_CH_hexValue_17 rfl (lv_at hl 0 rfl) ?_
    refine lv_bipush (v := 97) hx hb d_CH_hexValue_18 (by decide) ?_
    refine lv_icmp_lt (tgt := 37) hx hb d_CH_hexValue_20 (by decide) (fun c_20 => ?_) (fun c_20 => ?_)
    · skip
      refine lv_iload_n hx hb d_CH_hexValue_37 rfl (lv_at hl 0 rfl) ?_
      refine lv_bipush (v := 65) hx hb d_CH_hexValue_38 (by decide) ?_
      refine lv_icmp_lt (tgt := 59) hx hb d_CH_hexValue_40 (by decide) (fun c_40 => ?_) (fun c_40 => ?_)
      · skip
        refine lv_iconst (v := (-1)) hx hb d_CH_hexValue_59 (by decide) ?_
        have o_r : ((-1) : Int32) = (tt_hex x) := by first | contradiction | (simp [tt_hex, tt_b, c_3, c_20, c_40] <;> (intros; omega))
        exact W.iret (v := (-1)) hx hb hr (fun t ht hW => ⟨⟨_, (), rfl, o_r, trivial⟩, hS.F ht⟩) hS.2.2 d_CH_hexValue_60
      · skip
        refine lv_iload_n hx hb d_CH_hexValue_43 rfl (lv_at hl 0 rfl) ?_
        refine lv_bipush (v := 70) hx hb d_CH_hexValue_44 (by decide) ?_
        refine lv_icmp_gt (tgt := 59) hx hb d_CH_hexValue_46 (by decide) (fun c_46 => ?_) (fun c_46 => ?_)
        · skip
          refine lv_iconst (v := (-1)) hx hb d_CH_hexValue_59 (by decide) ?_
          have o_r : ((-1) : Int32) = (tt_hex x) := by first | contradiction | (simp [tt_hex, tt_b, c_3, c_20, c_40, c_46] <;> (intros; omega))
          exact W.iret (v := (-1)) hx hb hr (fun t ht hW => ⟨⟨_, (), rfl, o_r, trivial⟩, hS.F ht⟩) hS.2.2 d_CH_hexValue_60
        · skip
          refine lv_iload_n hx hb d_CH_hexValue_49 rfl (lv_at hl 0 rfl) ?_
          refine lv_bipush (v := 65) hx hb d_CH_hexValue_50 (by decide) ?_
          refine lv_isub hx hb d_CH_hexValue_52 ?_
          refine lv_bipush (v := 10) hx hb d_CH_hexValue_53 (by decide) ?_
          refine lv_iadd hx hb d_CH_hexValue_55 ?_
          refine lv_goto (tgt := 60) hx hb d_CH_hexValue_56 (by decide) ?_
          have o_r : ((x - 65) + 10) = (tt_hex x) := by first | contradiction | (simp [tt_hex, tt_b, c_3, c_20, c_40, c_46] <;> (intros; omega))
          exact W.iret (v := (x - 65) + 10) hx hb hr (fun t ht hW => ⟨⟨_, (), rfl, o_r, trivial⟩, hS.F ht⟩) hS.2.2 d_CH_hexValue_60
    · skip
      refine lv_iload_n hx hb d_CH_hexValue_23 rfl (lv_at hl 0 rfl) ?_
      refine lv_bipush (v := 102) hx hb d_CH_hexValue_24 (by decide) ?_
      refine lv_icmp_gt (tgt := 37) hx hb d_CH_hexValue_26 (by decide) (fun c_26 => ?_) (fun c_26 => ?_)
      · skip
        refine lv_iload_n hx hb d_CH_hexValue_37 rfl (lv_at hl 0 rfl) ?_
        refine lv_bipush (v := 65) hx hb d_CH_hexValue_38 (by decide) ?_
        refine lv_icmp_lt (tgt := 59) hx hb d_CH_hexValue_40 (by decide) (fun c_40 => ?_) (fun c_40 => ?_)
        · skip
          refine lv_iconst (v := (-1)) hx hb d_CH_hexValue_59 (by decide) ?_
          have o_r : ((-1) : Int32) = (tt_hex x) := by first | contradiction | (simp [tt_hex, tt_b, c_3, c_20, c_26, c_40] <;> (intros; omega))
          exact W.iret (v := (-1)) hx hb hr (fun t ht hW => ⟨⟨_, (), rfl, o_r, trivial⟩, hS.F ht⟩) hS.2.2 d_CH_hexValue_60
        · skip
          refine lv_iload_n hx hb d_CH_hexValue_43 rfl (lv_at hl 0 rfl) ?_
          refine lv_bipush (v := 70) hx hb d_CH_hexValue_44 (by decide) ?_
          refine lv_icmp_gt (tgt := 59) hx hb d_CH_hexValue_46 (by decide) (fun c_46 => ?_) (fun c_46 => ?_)
          · skip
            refine lv_iconst (v := (-1)) hx hb d_CH_hexValue_59 (by decide) ?_
            have o_r : ((-1) : Int32) = (tt_hex x) := by first | contradiction | (simp [tt_hex, tt_b, c_3, c_20, c_26, c_40, c_46] <;> (intros; omega))
            exact W.iret (v := (-1)) hx hb hr (fun t ht hW => ⟨⟨_, (), rfl, o_r, trivial⟩, hS.F ht⟩) hS.2.2 d_CH_hexValue_60
          · skip
            refine lv_iload_n hx hb d_CH_hexValue_49 rfl (lv_at hl 0 rfl) ?_
            refine lv_bipush (v := 65) hx hb d_CH_hexValue_50 (by decide) ?_
            refine lv_isub hx hb d_CH_hexValue_52 ?_
            refine lv_bipush (v := 10) hx hb d_CH_hexValue_53 (by decide) ?_
            refine lv_iadd hx hb d_CH_hexValue_55 ?_
            refine lv_goto (tgt := 60) hx hb d_CH_hexValue_56 (by decide) ?_
            have o_r : ((x - 65) + 10) = (tt_hex x) := by first | contradiction | (simp [tt_hex, tt_b, c_3, c_20, c_26, c_40, c_46] <;> (intros; omega))
            exact W.iret (v := (x - 65) + 10) hx hb hr (fun t ht hW => ⟨⟨_, (), rfl, o_r, trivial⟩, hS.F ht⟩) hS.2.2 d_CH_hexValue_60
      · skip
        refine lv_iload_n hx hb d_CH_hexValue_29 rfl (lv_at hl 0 rfl) ?_
        refine lv_bipush (v := 97) hx hb d_CH_hexValue_30 (by decide) ?_
        refine lv_isub hx hb d_CH_hexValue_32 ?_
        refine lv_bipush (v := 10) hx hb d_CH_hexValue_33 (by decide) ?_
        refine lv_iadd hx hb d_CH_hexValue_35 ?_
        have o_r : ((x - 97) + 10) = (tt_hex x) := by first | contradiction | (simp [tt_hex, tt_b, c_3, c_20, c_26] <;> (intros; omega))
        exact W.iret (v := (x - 97) + 10) hx hb hr (fun t ht hW => ⟨⟨_, (), rfl, o_r, trivial⟩, hS.F ht⟩) hS.2.2 d_CH_hexValue_36
  · skip
    refine lv_iload_n hx hb d_CH_hexValue_6 rfl (lv_at hl 0 rfl) ?_
    refine lv_bipush (v := 57) hx hb d_CH_hexValue_7 (by decide) ?_
    refine lv_icmp_gt (tgt := 17) hx hb d_CH_hexValue_9 (by decide) (fun c_9 => ?_) (fun c_9 => ?_)
    · skip
      refine lv_iload_n hx hb d_CH_hexValue_17 rfl (lv_at hl 0 rfl) ?_
      refine lv_bipush (v := 97) hx hb d_CH_hexValue_18 (by decide) ?_
      refine lv_icmp_lt (tgt := 37) hx hb d_CH_hexValue_20 (by decide) (fun c_20 => ?_) (fun c_20 => ?_)
      · skip
        refine lv_iload_n hx hb d_CH_hexValue_37 rfl (lv_at hl 0 rfl) ?_
        refine lv_bipush (v := 65) hx hb d_CH_hexValue_38 (by decide) ?_
        refine lv_icmp_lt (tgt := 59) hx hb d_CH_hexValue_40 (by decide) (fun c_40 => ?_) (fun c_40 => ?_)
        · skip
          refine lv_iconst (v := (-1)) hx hb d_CH_hexValue_59 (by decide) ?_
          have o_r : ((-1) : Int32) = (tt_hex x) := by first | contradiction | (simp [tt_hex, tt_b, c_3, c_9, c_20, c_40] <;> (intros; omega))
          exact W.iret (v := (-1)) hx hb hr (fun t ht hW => ⟨⟨_, (), rfl, o_r, trivial⟩, hS.F ht⟩) hS.2.2 d_CH_hexValue_60
        · skip
          refine lv_iload_n hx hb d_CH_hexValue_43 rfl (lv_at hl 0 rfl) ?_
          refine lv_bipush (v := 70) hx hb d_CH_hexValue_44 (by decide) ?_
          refine lv_icmp_gt (tgt := 59) hx hb d_CH_hexValue_46 (by decide) (fun c_46 => ?_) (fun c_46 => ?_)
          · skip
            refine lv_iconst (v := (-1)) hx hb d_CH_hexValue_59 (by decide) ?_
            have o_r : ((-1) : Int32) = (tt_hex x) := by first | contradiction | (simp [tt_hex, tt_b, c_3, c_9, c_20, c_40, c_46] <;> (intros; omega))
            exact W.iret (v := (-1)) hx hb hr (fun t ht hW => ⟨⟨_, (), rfl, o_r, trivial⟩, hS.F ht⟩) hS.2.2 d_CH_hexValue_60
          · skip
            refine lv_iload_n hx hb d_CH_hexValue_49 rfl (lv_at hl 0 rfl) ?_
            refine lv_bipush (v := 65) hx hb d_CH_hexValue_50 (by decide) ?_
            refine lv_isub hx hb d_CH_hexValue_52 ?_
            refine lv_bipush (v := 10) hx hb d_CH_hexValue_53 (by decide) ?_
            refine lv_iadd hx hb d_CH_hexValue_55 ?_
            refine lv_goto (tgt := 60) hx hb d_CH_hexValue_56 (by decide) ?_
            have o_r : ((x - 65) + 10) = (tt_hex x) := by first | contradiction | (simp [tt_hex, tt_b, c_3, c_9, c_20, c_40, c_46] <;> (intros; omega))
            exact W.iret (v := (x - 65) + 10) hx hb hr (fun t ht hW => ⟨⟨_, (), rfl, o_r, trivial⟩, hS.F ht⟩) hS.2.2 d_CH_hexValue_60
      · skip
        refine lv_iload_n hx hb d_CH_hexValue_23 rfl (lv_at hl 0 rfl) ?_
        refine lv_bipush (v := 102) hx hb d_CH_hexValue_24 (by decide) ?_
        refine lv_icmp_gt (tgt := 37) hx hb d_CH_hexValue_26 (by decide) (fun c_26 => ?_) (fun c_26 => ?_)
        · skip
          refine lv_iload_n hx hb d_CH_hexValue_37 rfl (lv_at hl 0 rfl) ?_
          refine lv_bipush (v := 65) hx hb d_CH_hexValue_38 (by decide) ?_
          refine lv_icmp_lt (tgt := 59) hx hb d_CH_hexValue_40 (by decide) (fun c_40 => ?_) (fun c_40 => ?_)
          · skip
            refine lv_iconst (v := (-1)) hx hb d_CH_hexValue_59 (by decide) ?_
            have o_r : ((-1) : Int32) = (tt_hex x) := by first | contradiction | (simp [tt_hex, tt_b, c_3, c_9, c_20, c_26, c_40] <;> (intros; omega))
            exact W.iret (v := (-1)) hx hb hr (fun t ht hW => ⟨⟨_, (), rfl, o_r, trivial⟩, hS.F ht⟩) hS.2.2 d_CH_hexValue_60
          · skip
            refine lv_iload_n hx hb d_CH_hexValue_43 rfl (lv_at hl 0 rfl) ?_
            refine lv_bipush (v := 70) hx hb d_CH_hexValue_44 (by decide) ?_
            refine lv_icmp_gt (tgt := 59) hx hb d_CH_hexValue_46 (by decide) (fun c_46 => ?_) (fun c_46 => ?_)
            · skip
              refine lv_iconst (v := (-1)) hx hb d_CH_hexValue_59 (by decide) ?_
              have o_r : ((-1) : Int32) = (tt_hex x) := by first | contradiction | (simp [tt_hex, tt_b, c_3, c_9, c_20, c_26, c_40, c_46] <;> (intros; omega))
              exact W.iret (v := (-1)) hx hb hr (fun t ht hW => ⟨⟨_, (), rfl, o_r, trivial⟩, hS.F ht⟩) hS.2.2 d_CH_hexValue_60
            · skip
              refine lv_iload_n hx hb d_CH_hexValue_49 rfl (lv_at hl 0 rfl) ?_
              refine lv_bipush (v := 65) hx hb d_CH_hexValue_50 (by decide) ?_
              refine lv_isub hx hb d_CH_hexValue_52 ?_
              refine lv_bipush (v := 10) hx hb d_CH_hexValue_53 (by decide) ?_
              refine lv_iadd hx hb d_CH_hexValue_55 ?_
              refine lv_goto (tgt := 60) hx hb d_CH_hexValue_56 (by decide) ?_
              have o_r : ((x - 65) + 10) = (tt_hex x) := by first | contradiction | (simp [tt_hex, tt_b, c_3, c_9, c_20, c_26, c_40, c_46] <;> (intros; omega))
              exact W.iret (v := (x - 65) + 10) hx hb hr (fun t ht hW => ⟨⟨_, (), rfl, o_r, trivial⟩, hS.F ht⟩) hS.2.2 d_CH_hexValue_60
        · skip
          refine lv_iload_n hx hb d_CH_hexValue_29 rfl (lv_at hl 0 rfl) ?_
          refine lv_bipush (v := 97) hx hb d_CH_hexValue_30 (by decide) ?_
          refine lv_isub hx hb d_CH_hexValue_32 ?_
          refine lv_bipush (v := 10) hx hb d_CH_hexValue_33 (by decide) ?_
          refine lv_iadd hx hb d_CH_hexValue_35 ?_
          have o_r : ((x - 97) + 10) = (tt_hex x) := by first | contradiction | (simp [tt_hex, tt_b, c_3, c_9, c_20, c_26] <;> (intros; omega))
          exact W.iret (v := (x - 97) + 10) hx hb hr (fun t ht hW => ⟨⟨_, (), rfl, o_r, trivial⟩, hS.F ht⟩) hS.2.2 d_CH_hexValue_36
    · skip
      refine lv_iload_n hx hb d_CH_hexValue_12 rfl (lv_at hl 0 rfl) ?_
      refine lv_bipush (v := 48) hx hb d_CH_hexValue_13 (by decide) ?_
      refine lv_isub hx hb d_CH_hexValue_15 ?_
      have o_r : (x - 48) = (tt_hex x) := by first | contradiction | (simp [tt_hex, tt_b, c_3, c_9] <;> (intros; omega))
      exact W.iret (v := x - 48) hx hb hr (fun t ht hW => ⟨⟨_, (), rfl, o_r, trivial⟩, hS.F ht⟩) hS.2.2 d_CH_hexValue_16
abbrev rm_CH_belongs0 : Room := { frames := 1, cells := 0, slots := 0, locals := 20 }
abbrev q_CH_belongs0 (D : va_G) (cI cB cL : ClassId) (x : Int32) : Array Value → State → Outcome → State → Prop := va_Qi (fun r9 (_ : Unit) => r9 = (tt_b (tt_dig x))) (fun _ _ => True) (fun _ => False)
set_option maxHeartbeats 4000000 in
set_option maxRecDepth 100000 in
theorem c_CH_belongs0 (l : Launch) (D : va_G) (cI cB cL : ClassId) (x : Int32) : Met l y_CH_belongs w_CH_belongs rm_CH_belongs0 (va_Pc [.int x, .int 0] (fun U => va_P D vwCl [] U.heap ∧ va_K D vwCl (tt_ty cI cB cL) U)) (q_CH_belongs0 D cI cB cL x) 0 0 (fun _ => False) := by
  refine Met.ofW (cc := b_CH_belongs) (maxL := 2) (ret := (some .boolean)) (by decide) rfl ?_
  intro p e s m args below meth c s₁ B hml hv
  obtain ⟨rfl, hP, hK⟩ := hv
  have hx := B.exec
  have hb := B.bytes
  have hr := B.returns
  have hts := atoms_spec (ws := w_CH_belongs) B.pre
  have htT : ∀ w ∈ tt_T, w.before _ s = true := fun w h => hts w (List.mem_cons_of_mem _ h)
  have hown : s.vm.findClass R_CH = some m.cls := findClass_of_methodNamed B.named
  have hlocks := B.notSynchronized
  have hS : va_S (fun _ => False) s.heap s.heap [] := va_S.rf
  have hl := lv_entry ([.int x, .int 0]) (n := 2) (Nat.le_of_ble_eq_true rfl)
  rw [lg_entry_eq]
  generalize (lg_sl ([.int x, .int 0]) ++ List.replicate (2 - (lg_sl ([.int x, .int 0])).length) Slot.unset).toArray = ls at hl ⊢
  have hl : lv_has ls 2 [(0, .int x), (1, .int 0)] := hl
  have hP : va_P D vwCl [] s.heap := hP
  refine lv_iload_n hx hb d_CH_belongs_0 rfl (lv_at hl 1 rfl) ?_
  refine lv_lookup (off := 27) (tgt := 28) hx hb d_CH_belongs_1 (by decide +kernel) (by decide +kernel) (by decide) ?_
  refine lv_iload_n hx hb d_CH_belongs_28 rfl (lv_at hl 0 rfl) ?_
  refine tt_roI (va_runS (As := [.int x]) (rest := []) ⟨hx, hb, hml, hown, hts⟩ (c_CH_isDigit l D cI cB cL x) (cwS 1 hts (tt_gS k_225 k_226 k_14 k_227) rfl rfl rfl hv_CH_isDigit ⟨Nat.le_of_ble_eq_true rfl, Nat.le_of_ble_eq_true rfl⟩) (tt_ropreS (w := []) hK hP [] rfl) rfl rfl hl.1 rfl (lv_room (Nat.le_of_ble_eq_true rfl)) d_CH_belongs_29 ⟨Nat.zero_le _, Nat.zero_le _⟩) hS hP (fun H locs hP hS => ?_)
  have o_r : (tt_b (tt_dig x)) = (tt_b (tt_dig x)) := rfl
  exact W.zret (ty := .boolean) (v := tt_b (tt_dig x)) hx hb hr (tt_nz o_r) (fun t ht hW => ⟨⟨_, (), rfl, o_r, trivial⟩, hS.F ht⟩) hS.2.2 d_CH_belongs_32
abbrev rm_CH_belongs1 : Room := { frames := 1, cells := 0, slots := 0, locals := 20 }
abbrev q_CH_belongs1 (D : va_G) (cI cB cL : ClassId) (x : Int32) : Array Value → State → Outcome → State → Prop := va_Qi (fun r9 (_ : Unit) => r9 = (tt_b (tt_hx x))) (fun _ _ => True) (fun _ => False)
set_option maxHeartbeats 4000000 in
set_option maxRecDepth 100000 in
theorem c_CH_belongs1 (l : Launch) (D : va_G) (cI cB cL : ClassId) (x : Int32) : Met l y_CH_belongs w_CH_belongs rm_CH_belongs1 (va_Pc [.int x, .int 1] (fun U => va_P D vwCl [] U.heap ∧ va_K D vwCl (tt_ty cI cB cL) U)) (q_CH_belongs1 D cI cB cL x) 0 0 (fun _ => False) := by
  refine Met.ofW (cc := b_CH_belongs) (maxL := 2) (ret := (some .boolean)) (by decide) rfl ?_
  intro p e s m args below meth c s₁ B hml hv
  obtain ⟨rfl, hP, hK⟩ := hv
  have hx := B.exec
  have hb := B.bytes
  have hr := B.returns
  have hts := atoms_spec (ws := w_CH_belongs) B.pre
  have htT : ∀ w ∈ tt_T, w.before _ s = true := fun w h => hts w (List.mem_cons_of_mem _ h)
  have hown : s.vm.findClass R_CH = some m.cls := findClass_of_methodNamed B.named
  have hlocks := B.notSynchronized
  have hS : va_S (fun _ => False) s.heap s.heap [] := va_S.rf
  have hl := lv_entry ([.int x, .int 1]) (n := 2) (Nat.le_of_ble_eq_true rfl)
  rw [lg_entry_eq]
  generalize (lg_sl ([.int x, .int 1]) ++ List.replicate (2 - (lg_sl ([.int x, .int 1])).length) Slot.unset).toArray = ls at hl ⊢
  have hl : lv_has ls 2 [(0, .int x), (1, .int 1)] := hl
  have hP : va_P D vwCl [] s.heap := hP
  refine lv_iload_n hx hb d_CH_belongs_0 rfl (lv_at hl 1 rfl) ?_
  refine lv_lookup (off := 32) (tgt := 33) hx hb d_CH_belongs_1 (by decide +kernel) (by decide +kernel) (by decide) ?_
  refine lv_iload_n hx hb d_CH_belongs_33 rfl (lv_at hl 0 rfl) ?_
  refine tt_roI (va_runS (As := [.int x]) (rest := []) ⟨hx, hb, hml, hown, hts⟩ (c_CH_hexValue l D cI cB cL x) (cwS 1 hts (tt_gS k_228 k_229 k_14 k_230) rfl rfl rfl hv_CH_hexValue ⟨Nat.le_of_ble_eq_true rfl, Nat.le_of_ble_eq_true rfl⟩) (tt_ropreS (w := []) hK hP [] rfl) rfl rfl hl.1 rfl (lv_room (Nat.le_of_ble_eq_true rfl)) d_CH_belongs_34 ⟨Nat.zero_le _, Nat.zero_le _⟩) hS hP (fun H locs hP hS => ?_)
  refine lv_iconst (v := (-1)) hx hb d_CH_belongs_37 (by decide) ?_
  refine lv_icmp_eq (tgt := 45) hx hb d_CH_belongs_38 (by decide) (fun c_38 => ?_) (fun c_38 => ?_)
  · skip
    refine lv_iconst (v := 0) hx hb d_CH_belongs_45 (by decide) ?_
    have o_r : (0 : Int32) = (tt_b (tt_hx x)) := by first | contradiction | (simp [tt_hx, tt_b, eq_true c_38] <;> (intros; omega))
    exact W.zret (ty := .boolean) (v := 0) hx hb hr (tt_nz o_r) (fun t ht hW => ⟨⟨_, (), rfl, o_r, trivial⟩, hS.F ht⟩) hS.2.2 d_CH_belongs_46
  · skip
    refine lv_iconst (v := 1) hx hb d_CH_belongs_41 (by decide) ?_
    refine lv_goto (tgt := 46) hx hb d_CH_belongs_42 (by decide) ?_
    have o_r : (1 : Int32) = (tt_b (tt_hx x)) := by first | contradiction | (simp [tt_hx, tt_b, c_38] <;> (intros; omega))
    exact W.zret (ty := .boolean) (v := 1) hx hb hr (tt_nz o_r) (fun t ht hW => ⟨⟨_, (), rfl, o_r, trivial⟩, hS.F ht⟩) hS.2.2 d_CH_belongs_46
abbrev rm_CH_belongs2 : Room := { frames := 1, cells := 0, slots := 0, locals := 20 }
abbrev q_CH_belongs2 (D : va_G) (cI cB cL : ClassId) (x : Int32) : Array Value → State → Outcome → State → Prop := va_Qi (fun r9 (_ : Unit) => r9 = (tt_b (tt_wd x))) (fun _ _ => True) (fun _ => False)
set_option maxHeartbeats 4000000 in
set_option maxRecDepth 100000 in
theorem c_CH_belongs2 (l : Launch) (D : va_G) (cI cB cL : ClassId) (x : Int32) : Met l y_CH_belongs w_CH_belongs rm_CH_belongs2 (va_Pc [.int x, .int 2] (fun U => va_P D vwCl [] U.heap ∧ va_K D vwCl (tt_ty cI cB cL) U)) (q_CH_belongs2 D cI cB cL x) 0 0 (fun _ => False) := by
  refine Met.ofW (cc := b_CH_belongs) (maxL := 2) (ret := (some .boolean)) (by decide) rfl ?_
  intro p e s m args below meth c s₁ B hml hv
  obtain ⟨rfl, hP, hK⟩ := hv
  have hx := B.exec
  have hb := B.bytes
  have hr := B.returns
  have hts := atoms_spec (ws := w_CH_belongs) B.pre
  have htT : ∀ w ∈ tt_T, w.before _ s = true := fun w h => hts w (List.mem_cons_of_mem _ h)
  have hown : s.vm.findClass R_CH = some m.cls := findClass_of_methodNamed B.named
  have hlocks := B.notSynchronized
  have hS : va_S (fun _ => False) s.heap s.heap [] := va_S.rf
  have hl := lv_entry ([.int x, .int 2]) (n := 2) (Nat.le_of_ble_eq_true rfl)
  rw [lg_entry_eq]
  generalize (lg_sl ([.int x, .int 2]) ++ List.replicate (2 - (lg_sl ([.int x, .int 2])).length) Slot.unset).toArray = ls at hl ⊢
  have hl : lv_has ls 2 [(0, .int x), (1, .int 2)] := hl
  have hP : va_P D vwCl [] s.heap := hP
  refine lv_iload_n hx hb d_CH_belongs_0 rfl (lv_at hl 1 rfl) ?_
  refine lv_lookup (off := 46) (tgt := 47) hx hb d_CH_belongs_1 (by decide +kernel) (by decide +kernel) (by decide) ?_
  refine lv_iload_n hx hb d_CH_belongs_47 rfl (lv_at hl 0 rfl) ?_
  refine tt_roI (va_runS (As := [.int x]) (rest := []) ⟨hx, hb, hml, hown, hts⟩ (c_CH_isDigit l D cI cB cL x) (cwS 1 hts (tt_gS k_225 k_226 k_14 k_227) rfl rfl rfl hv_CH_isDigit ⟨Nat.le_of_ble_eq_true rfl, Nat.le_of_ble_eq_true rfl⟩) (tt_ropreS (w := []) hK hP [] rfl) rfl rfl hl.1 rfl (lv_room (Nat.le_of_ble_eq_true rfl)) d_CH_belongs_48 ⟨Nat.zero_le _, Nat.zero_le _⟩) hS hP (fun H locs hP hS => ?_)
  refine lv_if_ne (tgt := 61) hx hb d_CH_belongs_51 (by decide) (fun c_51 => ?_) (fun c_51 => ?_)
  · have c_51 := tt_bn0.mp c_51
    refine lv_iconst (v := 1) hx hb d_CH_belongs_61 (by decide) ?_
    refine lv_goto (tgt := 66) hx hb d_CH_belongs_62 (by decide) ?_
    have o_r : (1 : Int32) = (tt_b (tt_wd x)) := by first | contradiction | (simp [tt_wd, tt_b, c_51] <;> (intros; omega))
    exact W.zret (ty := .boolean) (v := 1) hx hb hr (tt_nz o_r) (fun t ht hW => ⟨⟨_, (), rfl, o_r, trivial⟩, hS.F ht⟩) hS.2.2 d_CH_belongs_66
  · have c_51 := tt_b0.mp c_51
    refine lv_iload_n hx hb d_CH_belongs_54 rfl (lv_at hl 0 rfl) ?_
    refine tt_roI (va_runS (As := [.int x]) (rest := []) ⟨hx, hb, hml, hown, hts⟩ (c_CH_beginsWord l D cI cB cL x) (cwS 1 hts (tt_gS k_231 k_216 k_14 k_217) rfl rfl rfl hv_CH_beginsWord ⟨Nat.le_of_ble_eq_true rfl, Nat.le_of_ble_eq_true rfl⟩) (tt_ropreS (w := []) hK hP [] rfl) rfl rfl hl.1 rfl (lv_room (Nat.le_of_ble_eq_true rfl)) d_CH_belongs_55 ⟨Nat.zero_le _, Nat.zero_le _⟩) hS hP (fun H locs hP hS => ?_)
    refine lv_if_eq (tgt := 65) hx hb d_CH_belongs_58 (by decide) (fun c_58 => ?_) (fun c_58 => ?_)
    · have c_58 := tt_b0.mp c_58
      refine lv_iconst (v := 0) hx hb d_CH_belongs_65 (by decide) ?_
      have o_r : (0 : Int32) = (tt_b (tt_wd x)) := by first | contradiction | (simp [tt_wd, tt_b, c_51, c_58] <;> (intros; omega))
      exact W.zret (ty := .boolean) (v := 0) hx hb hr (tt_nz o_r) (fun t ht hW => ⟨⟨_, (), rfl, o_r, trivial⟩, hS.F ht⟩) hS.2.2 d_CH_belongs_66
    · have c_58 := tt_bn0.mp c_58
      refine lv_iconst (v := 1) hx hb d_CH_belongs_61 (by decide) ?_
      refine lv_goto (tgt := 66) hx hb d_CH_belongs_62 (by decide) ?_
      have o_r : (1 : Int32) = (tt_b (tt_wd x)) := by first | contradiction | (simp [tt_wd, tt_b, c_51, c_58] <;> (intros; omega))
      exact W.zret (ty := .boolean) (v := 1) hx hb hr (tt_nz o_r) (fun t ht hW => ⟨⟨_, (), rfl, o_r, trivial⟩, hS.F ht⟩) hS.2.2 d_CH_belongs_66
