abbrev rm_JP_checkIndexn : Room := { frames := 0, cells := 0, slots := 0, locals := 0 }
abbrev q_JP_checkIndexn (D : va_G) (cI cB cL : ClassId) (k M : Nat) : Array Value → State → Outcome → State → Prop := va_Qi (fun r9 (_ : Unit) => r9 = (nI k)) (fun _ _ => True) (fun _ => False)
set_option maxHeartbeats 4000000 in
set_option maxRecDepth 100000 in
theorem c_JP_checkIndexn (l : Launch) (D : va_G) (cI cB cL : ClassId) (k M : Nat) (hk : k < M) (hM : M < 2147483648) : Met l y_JP_checkIndex w_JP_checkIndex rm_JP_checkIndexn (va_Pc [.int (nI k), .int (nI M), .null] (fun U => va_P D vwCl [] U.heap ∧ va_K D vwCl (tt_ty cI cB cL) U)) (q_JP_checkIndexn D cI cB cL k M) 0 0 (fun _ => False) := by
  refine Met.ofW (cc := b_JP_checkIndex) (maxL := 3) (ret := (some .int)) (by decide) rfl ?_
  intro p e s m args below meth c s₁ B hml hv
  obtain ⟨rfl, hP, hK⟩ := hv
  have hx := B.exec
  have hb := B.bytes
  have hr := B.returns
  have hts := atoms_spec (ws := w_JP_checkIndex) B.pre
  have htT : ∀ w ∈ tt_T, w.before _ s = true := fun w h => hts w (List.mem_cons_of_mem _ h)
  have hown : s.vm.findClass R_JP = some m.cls := findClass_of_methodNamed B.named
  have hlocks := B.notSynchronized
  have hS : va_S (fun _ => False) s.heap s.heap [] := va_S.rf
  have hl := lv_entry ([.int (nI k), .int (nI M), .null]) (n := 3) (Nat.le_of_ble_eq_true rfl)
  rw [lg_entry_eq]
  generalize (lg_sl ([.int (nI k), .int (nI M), .null]) ++ List.replicate (3 - (lg_sl ([.int (nI k), .int (nI M), .null])).length) Slot.unset).toArray = ls at hl ⊢
  have hl : lv_has ls 3 [(0, .int (nI k)), (1, .int (nI M)), (2, .null)] := hl
  have hP : va_P D vwCl [] s.heap := hP
  refine lv_iload_n hx hb d_JP_checkIndex_0 rfl (lv_at hl 0 rfl) ?_
  refine lv_if_lt (tgt := 9) hx hb d_JP_checkIndex_1 (by decide) (fun c_1 => ?_) (fun c_1 => ?_)
  · have c_1 : k < 0 := (nI_ltI (a := k) (b := 0) (by omega) (by omega)).mp c_1
    exact absurd c_1 (Nat.not_lt_zero _)
  · have c_1 : ¬ k < 0 := fun z9 => c_1 ((nI_ltI (a := k) (b := 0) (by omega) (by omega)).mpr z9)
    have c_1 := Nat.not_lt.mp c_1
    refine lv_iload_n hx hb d_JP_checkIndex_4 rfl (lv_at hl 0 rfl) ?_
    refine lv_iload_n hx hb d_JP_checkIndex_5 rfl (lv_at hl 1 rfl) ?_
    refine lv_icmp_lt (tgt := 16) hx hb d_JP_checkIndex_6 (by decide) (fun c_6 => ?_) (fun c_6 => ?_)
    · have c_6 : k < M := (nI_ltI (a := k) (b := M) (by omega) (by omega)).mp c_6
      refine lv_iload_n hx hb d_JP_checkIndex_16 rfl (lv_at hl 0 rfl) ?_
      have o_r : (nI k) = (nI k) := rfl
      exact W.iret (v := nI k) hx hb hr (fun t ht hW => ⟨⟨_, (), rfl, o_r, trivial⟩, hS.F ht⟩) hS.2.2 d_JP_checkIndex_17
    · have c_6 : ¬ k < M := fun z9 => c_6 ((nI_ltI (a := k) (b := M) (by omega) (by omega)).mpr z9)
      have c_6 := Nat.not_lt.mp c_6
      exact absurd c_6 (by omega)
abbrev rm_JP_checkIndexr : Room := { frames := 0, cells := 0, slots := 0, locals := 0 }
abbrev q_JP_checkIndexr (D : va_G) (cI cB cL : ClassId) (k M t : Nat) : Array Value → State → Outcome → State → Prop := va_Qi (fun r9 (_ : Unit) => r9 = (nI k)) (fun _ _ => True) (fun _ => False)
set_option maxHeartbeats 4000000 in
set_option maxRecDepth 100000 in
theorem c_JP_checkIndexr (l : Launch) (D : va_G) (cI cB cL : ClassId) (k M t : Nat) (hk : k < M) (hM : M < 2147483648) : Met l y_JP_checkIndex w_JP_checkIndex rm_JP_checkIndexr (va_Pc [.int (nI k), .int (nI M), .ref t] (fun U => va_P D vwCl [] U.heap ∧ va_K D vwCl (tt_ty cI cB cL) U)) (q_JP_checkIndexr D cI cB cL k M t) 0 0 (fun _ => False) := by
  refine Met.ofW (cc := b_JP_checkIndex) (maxL := 3) (ret := (some .int)) (by decide) rfl ?_
  intro p e s m args below meth c s₁ B hml hv
  obtain ⟨rfl, hP, hK⟩ := hv
  have hx := B.exec
  have hb := B.bytes
  have hr := B.returns
  have hts := atoms_spec (ws := w_JP_checkIndex) B.pre
  have htT : ∀ w ∈ tt_T, w.before _ s = true := fun w h => hts w (List.mem_cons_of_mem _ h)
  have hown : s.vm.findClass R_JP = some m.cls := findClass_of_methodNamed B.named
  have hlocks := B.notSynchronized
  have hS : va_S (fun _ => False) s.heap s.heap [] := va_S.rf
  have hl := lv_entry ([.int (nI k), .int (nI M), .ref t]) (n := 3) (Nat.le_of_ble_eq_true rfl)
  rw [lg_entry_eq]
  generalize (lg_sl ([.int (nI k), .int (nI M), .ref t]) ++ List.replicate (3 - (lg_sl ([.int (nI k), .int (nI M), .ref t])).length) Slot.unset).toArray = ls at hl ⊢
  have hl : lv_has ls 3 [(0, .int (nI k)), (1, .int (nI M)), (2, .ref t)] := hl
  have hP : va_P D vwCl [] s.heap := hP
  refine lv_iload_n hx hb d_JP_checkIndex_0 rfl (lv_at hl 0 rfl) ?_
  refine lv_if_lt (tgt := 9) hx hb d_JP_checkIndex_1 (by decide) (fun c_1 => ?_) (fun c_1 => ?_)
  · have c_1 : k < 0 := (nI_ltI (a := k) (b := 0) (by omega) (by omega)).mp c_1
    exact absurd c_1 (Nat.not_lt_zero _)
  · have c_1 : ¬ k < 0 := fun z9 => c_1 ((nI_ltI (a := k) (b := 0) (by omega) (by omega)).mpr z9)
    have c_1 := Nat.not_lt.mp c_1
    refine lv_iload_n hx hb d_JP_checkIndex_4 rfl (lv_at hl 0 rfl) ?_
    refine lv_iload_n hx hb d_JP_checkIndex_5 rfl (lv_at hl 1 rfl) ?_
    refine lv_icmp_lt (tgt := 16) hx hb d_JP_checkIndex_6 (by decide) (fun c_6 => ?_) (fun c_6 => ?_)
    · have c_6 : k < M := (nI_ltI (a := k) (b := M) (by omega) (by omega)).mp c_6
      refine lv_iload_n hx hb d_JP_checkIndex_16 rfl (lv_at hl 0 rfl) ?_
      have o_r : (nI k) = (nI k) := rfl
      exact W.iret (v := nI k) hx hb hr (fun t ht hW => ⟨⟨_, (), rfl, o_r, trivial⟩, hS.F ht⟩) hS.2.2 d_JP_checkIndex_17
    · have c_6 : ¬ k < M := fun z9 => c_6 ((nI_ltI (a := k) (b := M) (by omega) (by omega)).mpr z9)
      have c_6 := Nat.not_lt.mp c_6
      exact absurd c_6 (by omega)
abbrev rm_JS_checkIndex : Room := { frames := 1, cells := 0, slots := 0, locals := 22 }
abbrev q_JS_checkIndex (D : va_G) (cI cB cL : ClassId) (q v N : Nat) (b : Nat → Int32) (k M : Nat) : Array Value → State → Outcome → State → Prop := va_Qv (fun (_ : Unit) => True) (fun _ _ => True) (fun _ => False)
set_option maxHeartbeats 4000000 in
set_option maxRecDepth 100000 in
theorem c_JS_checkIndex (l : Launch) (D : va_G) (cI cB cL : ClassId) (q v N : Nat) (b : Nat → Int32) (k M : Nat) (hk : k < M) (hM : M < 2147483648) : Met l y_JS_checkIndex w_JS_checkIndex rm_JS_checkIndex (va_Pc [.int (nI k), .int (nI M)] (fun U => va_P D vwCl [] U.heap ∧ va_K D vwCl (tt_ty cI cB cL) U ∧ tt_J q v N b (fun _ => False) U U.heap)) (q_JS_checkIndex D cI cB cL q v N b k M) 0 0 (fun _ => False) := by
  refine Met.ofW (cc := b_JS_checkIndex) (maxL := 2) (ret := none) (by decide) rfl ?_
  intro p e s m args below meth c s₁ B hml hv
  obtain ⟨rfl, hP, hK, hJ⟩ := hv
  have hx := B.exec
  have hb := B.bytes
  have hr := B.returns
  have hts := atoms_spec (ws := w_JS_checkIndex) B.pre
  have htT : ∀ w ∈ tt_T, w.before _ s = true := fun w h => hts w (List.mem_cons_of_mem _ h)
  have hown : s.vm.findClass R_JS = some m.cls := findClass_of_methodNamed B.named
  have hlocks := B.notSynchronized
  have hS : va_S (fun _ => False) s.heap s.heap [] := va_S.rf
  have hl := lv_entry ([.int (nI k), .int (nI M)]) (n := 2) (Nat.le_of_ble_eq_true rfl)
  rw [lg_entry_eq]
  generalize (lg_sl ([.int (nI k), .int (nI M)]) ++ List.replicate (2 - (lg_sl ([.int (nI k), .int (nI M)])).length) Slot.unset).toArray = ls at hl ⊢
  have hl : lv_has ls 2 [(0, .int (nI k)), (1, .int (nI M))] := hl
  have hP : va_P D vwCl [] s.heap := hP
  refine lv_iload_n hx hb d_JS_checkIndex_0 rfl (lv_at hl 0 rfl) ?_
  refine lv_iload_n hx hb d_JS_checkIndex_1 rfl (lv_at hl 1 rfl) ?_
  rcases hJ.2.2.2.2.2 with hz | ⟨t, hz⟩
  · refine va_gets hx hb hz hS hown (htT _ k_309) (fun _ h9 => h9) d_JS_checkIndex_2 ?_
    refine tt_roI (va_runS (As := [.int (nI k), .int (nI M), .null]) (rest := []) ⟨hx, hb, hml, hown, hts⟩ (c_JP_checkIndexn l D cI cB cL k M (by omega) (by omega)) (va_cwS 3 hts (tt_gS2 k_311 k_312 k_19 k_313) rfl rfl rfl hv_JP_checkIndex.2 ⟨Nat.le_of_ble_eq_true rfl, Nat.le_of_ble_eq_true rfl⟩) (tt_ropreS (w := []) hK hP [] rfl) rfl rfl hl.1 rfl (lv_room (Nat.le_of_ble_eq_true rfl)) d_JS_checkIndex_5 ⟨Nat.zero_le _, Nat.zero_le _⟩) hS hP (fun H locs hP hS => ?_)
    refine lv_pop hx hb d_JS_checkIndex_8 rfl ?_
    exact W.vret hx hb hr (fun t ht hW => ⟨⟨(), rfl, trivial, trivial⟩, hS.F ht⟩) hS.2.2 d_JS_checkIndex_9
  · refine va_gets hx hb hz hS hown (htT _ k_309) (fun _ h9 => h9) d_JS_checkIndex_2 ?_
    refine tt_roI (va_runS (As := [.int (nI k), .int (nI M), .ref t]) (rest := []) ⟨hx, hb, hml, hown, hts⟩ (c_JP_checkIndexr l D cI cB cL k M t (by omega) (by omega)) (va_cwS 3 hts (tt_gS2 k_311 k_312 k_19 k_313) rfl rfl rfl hv_JP_checkIndex.2 ⟨Nat.le_of_ble_eq_true rfl, Nat.le_of_ble_eq_true rfl⟩) (tt_ropreS (w := []) hK hP [] rfl) rfl rfl hl.1 rfl (lv_room (Nat.le_of_ble_eq_true rfl)) d_JS_checkIndex_5 ⟨Nat.zero_le _, Nat.zero_le _⟩) hS hP (fun H locs hP hS => ?_)
    refine lv_pop hx hb d_JS_checkIndex_8 rfl ?_
    exact W.vret hx hb hr (fun t ht hW => ⟨⟨(), rfl, trivial, trivial⟩, hS.F ht⟩) hS.2.2 d_JS_checkIndex_9
abbrev rm_JL_charAt : Room := { frames := 2, cells := 0, slots := 0, locals := 43 }
abbrev q_JL_charAt (D : va_G) (cI cB cL : ClassId) (q v N : Nat) (b : Nat → Int32) (k : Nat) : Array Value → State → Outcome → State → Prop := va_Qi (fun r9 (_ : Unit) => r9 = (b k &&& 255)) (fun _ _ => True) (fun _ => False)
set_option maxHeartbeats 4000000 in
set_option maxRecDepth 100000 in
theorem c_JL_charAt (l : Launch) (D : va_G) (cI cB cL : ClassId) (q v N : Nat) (b : Nat → Int32) (k : Nat) (hN : N < 2147483648) (hk : k < N) : Met l y_JL_charAt w_JL_charAt rm_JL_charAt (va_Pc [.ref v, .int (nI k)] (fun U => va_P D vwCl [] U.heap ∧ va_K D vwCl (tt_ty cI cB cL) U ∧ tt_J q v N b (fun _ => False) U U.heap)) (q_JL_charAt D cI cB cL q v N b k) 0 0 (fun _ => False) := by
  refine Met.ofW (cc := b_JL_charAt) (maxL := 2) (ret := (some .char)) (by decide) rfl ?_
  intro p e s m args below meth c s₁ B hml hv
  obtain ⟨rfl, hP, hK, hJ⟩ := hv
  have hx := B.exec
  have hb := B.bytes
  have hr := B.returns
  have hts := atoms_spec (ws := w_JL_charAt) B.pre
  have htT : ∀ w ∈ tt_T, w.before _ s = true := fun w h => hts w (List.mem_cons_of_mem _ h)
  have hown : s.vm.findClass R_JL = some m.cls := findClass_of_methodNamed B.named
  have hlocks := B.notSynchronized
  have hS : va_S (fun _ => False) s.heap s.heap [] := va_S.rf
  have hl := lv_entry ([.ref v, .int (nI k)]) (n := 2) (Nat.le_of_ble_eq_true rfl)
  rw [lg_entry_eq]
  generalize (lg_sl ([.ref v, .int (nI k)]) ++ List.replicate (2 - (lg_sl ([.ref v, .int (nI k)])).length) Slot.unset).toArray = ls at hl ⊢
  have hl : lv_has ls 2 [(0, .ref v), (1, .int (nI k))] := hl
  have hP : va_P D vwCl [] s.heap := hP
  refine lv_iload_n hx hb d_JL_charAt_0 rfl (lv_at hl 1 rfl) ?_
  refine lv_aload_n hx hb d_JL_charAt_1 rfl (lv_at hl 0 rfl) ?_
  refine va_tlen (v := nI N) hx hb hJ.2.2.2.1 hS rfl d_JL_charAt_2 ?_
  refine tt_roV (va_runS (As := [.int (nI k), .int (nI N)]) (rest := []) ⟨hx, hb, hml, hown, hts⟩ (c_JS_checkIndex l D cI cB cL q v N b k N (by omega) (by omega)) (va_cwS 2 hts (tt_gS2 k_306 k_307 k_17 k_308) rfl rfl rfl hv_JS_checkIndex.2 ⟨Nat.le_of_ble_eq_true rfl, Nat.le_of_ble_eq_true rfl⟩) (tt_xpreS (w := []) tt_J.call hK hP [] rfl (fun U hU hW => hJ.use hS hU hW (fun _ h9 => h9.elim))) rfl rfl hl.1 rfl (lv_room (Nat.le_of_ble_eq_true rfl)) d_JL_charAt_3 ⟨Nat.zero_le _, Nat.zero_le _⟩) hS hP (fun H locs hP hS => ?_)
  refine lv_aload_n hx hb d_JL_charAt_6 rfl (lv_at hl 0 rfl) ?_
  refine lv_iload_n hx hb d_JL_charAt_7 rfl (lv_at hl 1 rfl) ?_
  refine va_tb (v := .int (b k)) hx hb hJ.2.2.2.1 hS (vp_in_nI (by omega) (by omega)) (by rw [nI_clamp (by omega)]) d_JL_charAt_8 ?_
  refine lv_sipush (v := 255) hx hb d_JL_charAt_9 (by decide) ?_
  refine lv_iand hx hb d_JL_charAt_12 ?_
  refine lv_i2c (v := (b k) &&& 255) hx hb d_JL_charAt_13 (sc_c2 _) ?_
  have o_r : ((b k) &&& 255) = (b k &&& 255) := rfl
  exact W.zret (ty := .char) (v := (b k) &&& 255) hx hb hr (sc_nar _) (fun t ht hW => ⟨⟨_, (), rfl, o_r, trivial⟩, hS.F ht⟩) hS.2.2 d_JL_charAt_14
abbrev rm_JS_coder : Room := { frames := 0, cells := 0, slots := 0, locals := 0 }
abbrev q_JS_coder (D : va_G) (cI cB cL : ClassId) (q v N : Nat) (b : Nat → Int32) : Array Value → State → Outcome → State → Prop := va_Qi (fun r9 (_ : Unit) => r9 = 0) (fun _ _ => True) (fun _ => False)
set_option maxHeartbeats 4000000 in
set_option maxRecDepth 100000 in
theorem c_JS_coder (l : Launch) (D : va_G) (cI cB cL : ClassId) (q v N : Nat) (b : Nat → Int32) : Met l y_JS_coder w_JS_coder rm_JS_coder (va_Pc [.ref q] (fun U => va_P D vwCl [] U.heap ∧ va_K D vwCl (tt_ty cI cB cL) U ∧ tt_J q v N b (fun _ => False) U U.heap)) (q_JS_coder D cI cB cL q v N b) 0 0 (fun _ => False) := by
  refine Met.ofW (cc := b_JS_coder) (maxL := 1) (ret := (some .byte)) (by decide) rfl ?_
  intro p e s m args below meth c s₁ B hml hv
  obtain ⟨rfl, hP, hK, hJ⟩ := hv
  have hx := B.exec
  have hb := B.bytes
  have hr := B.returns
  have hts := atoms_spec (ws := w_JS_coder) B.pre
  have htT : ∀ w ∈ tt_T, w.before _ s = true := fun w h => hts w (List.mem_cons_of_mem _ h)
  have hown : s.vm.findClass R_JS = some m.cls := findClass_of_methodNamed B.named
  have hlocks := B.notSynchronized
  have hS : va_S (fun _ => False) s.heap s.heap [] := va_S.rf
  have hl := lv_entry ([.ref q]) (n := 1) (Nat.le_of_ble_eq_true rfl)
  rw [lg_entry_eq]
  generalize (lg_sl ([.ref q]) ++ List.replicate (1 - (lg_sl ([.ref q])).length) Slot.unset).toArray = ls at hl ⊢
  have hl : lv_has ls 1 [(0, .ref q)] := hl
  have hP : va_P D vwCl [] s.heap := hP
  refine va_gets hx hb hJ.2.2.2.2.1 hS hown (htT _ k_293) (fun _ h9 => h9) d_JS_coder_0 ?_
  refine lv_if_eq (tgt := 13) hx hb d_JS_coder_3 (by decide) (fun c_3 => ?_) (fun c_3 => ?_)
  · exact absurd c_3 (by decide)
  · skip
    refine lv_aload_n hx hb d_JS_coder_6 rfl (lv_at hl 0 rfl) ?_
    refine vk_getf hx hb hJ.2.1 hS hown (htT _ k_863) (fun _ h9 => h9) d_JS_coder_7 ?_
    refine lv_goto (tgt := 14) hx hb d_JS_coder_10 (by decide) ?_
    have o_r : (0 : Int32) = 0 := rfl
    exact W.zret (ty := .byte) (v := 0) hx hb hr rfl (fun t ht hW => ⟨⟨_, (), rfl, o_r, trivial⟩, hS.F ht⟩) hS.2.2 d_JS_coder_14
abbrev rm_JS_isLatin1 : Room := { frames := 0, cells := 0, slots := 0, locals := 0 }
abbrev q_JS_isLatin1 (D : va_G) (cI cB cL : ClassId) (q v N : Nat) (b : Nat → Int32) : Array Value → State → Outcome → State → Prop := va_Qi (fun r9 (_ : Unit) => r9 = (tt_b true)) (fun _ _ => True) (fun _ => False)
set_option maxHeartbeats 4000000 in
set_option maxRecDepth 100000 in
theorem c_JS_isLatin1 (l : Launch) (D : va_G) (cI cB cL : ClassId) (q v N : Nat) (b : Nat → Int32) : Met l y_JS_isLatin1 w_JS_isLatin1 rm_JS_isLatin1 (va_Pc [.ref q] (fun U => va_P D vwCl [] U.heap ∧ va_K D vwCl (tt_ty cI cB cL) U ∧ tt_J q v N b (fun _ => False) U U.heap)) (q_JS_isLatin1 D cI cB cL q v N b) 0 0 (fun _ => False) := by
  refine Met.ofW (cc := b_JS_isLatin1) (maxL := 1) (ret := (some .boolean)) (by decide) rfl ?_
  intro p e s m args below meth c s₁ B hml hv
  obtain ⟨rfl, hP, hK, hJ⟩ := hv
  have hx := B.exec
  have hb := B.bytes
  have hr := B.returns
  have hts := atoms_spec (ws := w_JS_isLatin1) B.pre
  have htT : ∀ w ∈ tt_T, w.before _ s = true := fun w h => hts w (List.mem_cons_of_mem _ h)
  have hown : s.vm.findClass R_JS = some m.cls := findClass_of_methodNamed B.named
  have hlocks := B.notSynchronized
  have hS : va_S (fun _ => False) s.heap s.heap [] := va_S.rf
  have hl := lv_entry ([.ref q]) (n := 1) (Nat.le_of_ble_eq_true rfl)
  rw [lg_entry_eq]
  generalize (lg_sl ([.ref q]) ++ List.replicate (1 - (lg_sl ([.ref q])).length) Slot.unset).toArray = ls at hl ⊢
  have hl : lv_has ls 1 [(0, .ref q)] := hl
  have hP : va_P D vwCl [] s.heap := hP
  refine va_gets hx hb hJ.2.2.2.2.1 hS hown (htT _ k_293) (fun _ h9 => h9) d_JS_isLatin1_0 ?_
  refine lv_if_eq (tgt := 17) hx hb d_JS_isLatin1_3 (by decide) (fun c_3 => ?_) (fun c_3 => ?_)
  · exact absurd c_3 (by decide)
  · skip
    refine lv_aload_n hx hb d_JS_isLatin1_6 rfl (lv_at hl 0 rfl) ?_
    refine vk_getf hx hb hJ.2.1 hS hown (htT _ k_863) (fun _ h9 => h9) d_JS_isLatin1_7 ?_
    refine lv_if_ne (tgt := 17) hx hb d_JS_isLatin1_10 (by decide) (fun c_10 => ?_) (fun c_10 => ?_)
    · exact absurd c_10 (by decide)
    · skip
      refine lv_iconst (v := 1) hx hb d_JS_isLatin1_13 (by decide) ?_
      refine lv_goto (tgt := 18) hx hb d_JS_isLatin1_14 (by decide) ?_
      have o_r : (1 : Int32) = (tt_b true) := rfl
      exact W.zret (ty := .boolean) (v := 1) hx hb hr (tt_nz o_r) (fun t ht hW => ⟨⟨_, (), rfl, o_r, trivial⟩, hS.F ht⟩) hS.2.2 d_JS_isLatin1_18
abbrev rm_JS_length : Room := { frames := 1, cells := 0, slots := 0, locals := 20 }
abbrev q_JS_length (D : va_G) (cI cB cL : ClassId) (q v N : Nat) (b : Nat → Int32) : Array Value → State → Outcome → State → Prop := va_Qi (fun r9 (_ : Unit) => r9 = (nI N)) (fun _ _ => True) (fun _ => False)
set_option maxHeartbeats 4000000 in
set_option maxRecDepth 100000 in
theorem c_JS_length (l : Launch) (D : va_G) (cI cB cL : ClassId) (q v N : Nat) (b : Nat → Int32) (hN : N < 2147483648) : Met l y_JS_length w_JS_length rm_JS_length (va_Pc [.ref q] (fun U => va_P D vwCl [] U.heap ∧ va_K D vwCl (tt_ty cI cB cL) U ∧ tt_J q v N b (fun _ => False) U U.heap)) (q_JS_length D cI cB cL q v N b) 0 0 (fun _ => False) := by
  refine Met.ofW (cc := b_JS_length) (maxL := 1) (ret := (some .int)) (by decide) rfl ?_
  intro p e s m args below meth c s₁ B hml hv
  obtain ⟨rfl, hP, hK, hJ⟩ := hv
  have hx := B.exec
  have hb := B.bytes
  have hr := B.returns
  have hts := atoms_spec (ws := w_JS_length) B.pre
  have htT : ∀ w ∈ tt_T, w.before _ s = true := fun w h => hts w (List.mem_cons_of_mem _ h)
  have hown : s.vm.findClass R_JS = some m.cls := findClass_of_methodNamed B.named
  have hlocks := B.notSynchronized
  have hS : va_S (fun _ => False) s.heap s.heap [] := va_S.rf
  have hl := lv_entry ([.ref q]) (n := 1) (Nat.le_of_ble_eq_true rfl)
  rw [lg_entry_eq]
  generalize (lg_sl ([.ref q]) ++ List.replicate (1 - (lg_sl ([.ref q])).length) Slot.unset).toArray = ls at hl ⊢
  have hl : lv_has ls 1 [(0, .ref q)] := hl
  have hP : va_P D vwCl [] s.heap := hP
  refine lv_aload_n hx hb d_JS_length_0 rfl (lv_at hl 0 rfl) ?_
  refine vk_getf hx hb hJ.2.2.1 hS hown (htT _ k_862) (fun _ h9 => h9) d_JS_length_1 ?_
  refine va_tlen (v := nI N) hx hb hJ.2.2.2.1 hS rfl d_JS_length_4 ?_
  refine lv_aload_n hx hb d_JS_length_5 rfl (lv_at hl 0 rfl) ?_
  refine tt_roI (va_runV (As := []) (rest := [.int (nI N)]) ⟨hx, hb, hml, hown, hts⟩ (c_JS_coder l D cI cB cL q v N b) (cwV 0 hts (tt_gV k_289 k_290 k_291 k_17 k_292) rfl rfl rfl hv_JS_coder ⟨Nat.le_of_ble_eq_true rfl, Nat.le_of_ble_eq_true rfl⟩) (tt_xpreV (w := []) tt_J.call hK hP [] rfl (hJ.recv hS) (fun U hU hW => hJ.use hS hU hW (fun _ h9 => h9.elim))) rfl rfl hl.1 rfl (lv_room (Nat.le_of_ble_eq_true rfl)) d_JS_length_6 ⟨Nat.zero_le _, Nat.zero_le _⟩) hS hP (fun H locs hP hS => ?_)
  refine lv_ishr hx hb d_JS_length_9 ?_
  refine tt_ti (show (nI N) >>> (0 &&& 31) = nI N from sb_shr0 _) ?_
  have o_r : (nI N) = (nI N) := rfl
  exact W.iret (v := nI N) hx hb hr (fun t ht hW => ⟨⟨_, (), rfl, o_r, trivial⟩, hS.F ht⟩) hS.2.2 d_JS_length_10
abbrev rm_JS_charAt : Room := { frames := 3, cells := 0, slots := 0, locals := 64 }
abbrev q_JS_charAt (D : va_G) (cI cB cL : ClassId) (q v N : Nat) (b : Nat → Int32) (k : Nat) : Array Value → State → Outcome → State → Prop := va_Qi (fun r9 (_ : Unit) => r9 = (b k &&& 255)) (fun _ _ => True) (fun _ => False)
set_option maxHeartbeats 4000000 in
set_option maxRecDepth 100000 in
theorem c_JS_charAt (l : Launch) (D : va_G) (cI cB cL : ClassId) (q v N : Nat) (b : Nat → Int32) (k : Nat) (hN : N < 2147483648) (hk : k < N) : Met l y_JS_charAt w_JS_charAt rm_JS_charAt (va_Pc [.ref q, .int (nI k)] (fun U => va_P D vwCl [] U.heap ∧ va_K D vwCl (tt_ty cI cB cL) U ∧ tt_J q v N b (fun _ => False) U U.heap)) (q_JS_charAt D cI cB cL q v N b k) 0 0 (fun _ => False) := by
  refine Met.ofW (cc := b_JS_charAt) (maxL := 2) (ret := (some .char)) (by decide) rfl ?_
  intro p e s m args below meth c s₁ B hml hv
  obtain ⟨rfl, hP, hK, hJ⟩ := hv
  have hx := B.exec
  have hb := B.bytes
  have hr := B.returns
  have hts := atoms_spec (ws := w_JS_charAt) B.pre
  have htT : ∀ w ∈ tt_T, w.before _ s = true := fun w h => hts w (List.mem_cons_of_mem _ h)
  have hown : s.vm.findClass R_JS = some m.cls := findClass_of_methodNamed B.named
  have hlocks := B.notSynchronized
  have hS : va_S (fun _ => False) s.heap s.heap [] := va_S.rf
  have hl := lv_entry ([.ref q, .int (nI k)]) (n := 2) (Nat.le_of_ble_eq_true rfl)
  rw [lg_entry_eq]
  generalize (lg_sl ([.ref q, .int (nI k)]) ++ List.replicate (2 - (lg_sl ([.ref q, .int (nI k)])).length) Slot.unset).toArray = ls at hl ⊢
  have hl : lv_has ls 2 [(0, .ref q), (1, .int (nI k))] := hl
  have hP : va_P D vwCl [] s.heap := hP
  refine lv_aload_n hx hb d_JS_charAt_0 rfl (lv_at hl 0 rfl) ?_
  refine tt_roI (va_runV (As := []) (rest := []) ⟨hx, hb, hml, hown, hts⟩ (c_JS_isLatin1 l D cI cB cL q v N b) (cwV 0 hts (tt_gV k_299 k_300 k_301 k_17 k_302) rfl rfl rfl hv_JS_isLatin1 ⟨Nat.le_of_ble_eq_true rfl, Nat.le_of_ble_eq_true rfl⟩) (tt_xpreV (w := []) tt_J.call hK hP [] rfl (hJ.recv hS) (fun U hU hW => hJ.use hS hU hW (fun _ h9 => h9.elim))) rfl rfl hl.1 rfl (lv_room (Nat.le_of_ble_eq_true rfl)) d_JS_charAt_1 ⟨Nat.zero_le _, Nat.zero_le _⟩) hS hP (fun H locs hP hS => ?_)
  refine lv_if_eq (tgt := 16) hx hb d_JS_charAt_4 (by decide) (fun c_4 => ?_) (fun c_4 => ?_)
  · have c_4 := tt_b0.mp c_4
    exact absurd c_4 (by decide)
  · have c_4 := tt_bn0.mp c_4
    refine lv_aload_n hx hb d_JS_charAt_7 rfl (lv_at hl 0 rfl) ?_
    refine vk_getf hx hb hJ.2.2.1 hS hown (htT _ k_862) (fun _ h9 => h9) d_JS_charAt_8 ?_
    refine lv_iload_n hx hb d_JS_charAt_11 rfl (lv_at hl 1 rfl) ?_
    refine tt_roI (va_runS (As := [.ref v, .int (nI k)]) (rest := []) ⟨hx, hb, hml, hown, hts⟩ (c_JL_charAt l D cI cB cL q v N b k (by omega) (by omega)) (va_cwS 2 hts (tt_gS2 k_303 k_304 k_18 k_305) rfl rfl rfl hv_JL_charAt.2 ⟨Nat.le_of_ble_eq_true rfl, Nat.le_of_ble_eq_true rfl⟩) (tt_xpreS (w := []) tt_J.call hK hP [] rfl (fun U hU hW => hJ.use hS hU hW (fun _ h9 => h9.elim))) rfl rfl hl.1 rfl (lv_room (Nat.le_of_ble_eq_true rfl)) d_JS_charAt_12 ⟨Nat.zero_le _, Nat.zero_le _⟩) hS hP (fun H locs hP hS => ?_)
    have o_r : (b k &&& 255) = (b k &&& 255) := rfl
    exact W.zret (ty := .char) (v := b k &&& 255) hx hb hr (sc_nar _) (fun t ht hW => ⟨⟨_, (), rfl, o_r, trivial⟩, hS.F ht⟩) hS.2.2 d_JS_charAt_15
