abbrev rm_TT_endv : Room := { frames := 0, cells := 0, slots := 0, locals := 0 }
abbrev q_TT_endv (D : va_G) (cI cB cL : ClassId) (ad : Nat → Nat) (g : Nat → Int32) (cn : Nat) (k : Nat) (A : Nat → Prop) : Array Value → State → Outcome → State → Prop := va_Qi (fun r9 _ => r9 = (nI cn)) (fun (_ : Unit) t => va_P D vwCl [(ad 13, .inr (0, [.ref (ad 14), .ref (ad 0), .ref (ad 11), .ref (ad 16)])), (ad 14, .inr (1, [.ref (ad 15), .int (nI k)])), (ad 15, .inl (cB, 16384, .inl g))] t.heap ∧ va_D A [(ad 13, .inr (0, [.ref (ad 14), .ref (ad 0), .ref (ad 11), .ref (ad 16)])), (ad 14, .inr (1, [.ref (ad 15), .int (nI k)])), (ad 15, .inl (cB, 16384, .inl g))]) A
set_option maxHeartbeats 4000000 in
set_option maxRecDepth 100000 in
theorem c_TT_endv (l : Launch) (D : va_G) (cI cB cL : ClassId) (ad : Nat → Nat) (g : Nat → Int32) (cn : Nat) (k : Nat) (hc : cn ≤ 16384) (hk : k ≤ cn) (sz : Nat) : Met l y_TT_end w_TT_end rm_TT_endv (va_Pc [.ref (ad 13), .int (nI k)] (fun U => U.heap.size = sz ∧ va_P D vwCl [(ad 13, .inr (0, [.ref (ad 14), .ref (ad 0), .ref (ad 11), .ref (ad 16)])), (ad 14, .inr (1, [.ref (ad 15), .int (nI cn)])), (ad 15, .inl (cB, 16384, .inl g))] U.heap ∧ va_K D vwCl (tt_ty cI cB cL) U ∧ va_D (fun _ => True) [(ad 13, .inr (0, [.ref (ad 14), .ref (ad 0), .ref (ad 11), .ref (ad 16)])), (ad 14, .inr (1, [.ref (ad 15), .int (nI cn)])), (ad 15, .inl (cB, 16384, .inl g))])) (q_TT_endv D cI cB cL ad g cn k (va_A [(ad 13, .inr (0, [.ref (ad 14), .ref (ad 0), .ref (ad 11), .ref (ad 16)])), (ad 14, .inr (1, [.ref (ad 15), .int (nI cn)])), (ad 15, .inl (cB, 16384, .inl g))] sz)) 0 0 (va_A [(ad 13, .inr (0, [.ref (ad 14), .ref (ad 0), .ref (ad 11), .ref (ad 16)])), (ad 14, .inr (1, [.ref (ad 15), .int (nI cn)])), (ad 15, .inl (cB, 16384, .inl g))] sz) := by
  refine Met.ofW (cc := b_TT_end) (maxL := 3) (ret := (some .int)) (by decide) rfl ?_
  intro p e s m args below meth c s₁ B hml hv
  obtain ⟨rfl, hsz, hP, hK, hD0⟩ := hv
  have hx := B.exec
  have hb := B.bytes
  have hr := B.returns
  have hts := atoms_spec (ws := w_TT_end) B.pre
  have htT : ∀ w ∈ tt_T, w.before _ s = true := fun w h => hts w (List.mem_cons_of_mem _ h)
  have hown : s.vm.findClass R_TT = some m.cls := findClass_of_methodNamed B.named
  have hlocks := B.notSynchronized
  subst hsz
  have hD := hD0.self (sz := s.heap.size)
  generalize hAe : va_A [(ad 13, .inr (0, [.ref (ad 14), .ref (ad 0), .ref (ad 11), .ref (ad 16)])), (ad 14, .inr (1, [.ref (ad 15), .int (nI cn)])), (ad 15, .inl (cB, 16384, .inl g))] s.heap.size = A at hD ⊢
  have hA : ∀ q : Nat, s.heap.size ≤ q → A q := fun q h => by rw [← hAe]; exact Or.inr h
  have hS : va_S A s.heap s.heap [] := va_S.rf
  have hl := lv_entry ([.ref (ad 13), .int (nI k)]) (n := 3) (Nat.le_of_ble_eq_true rfl)
  rw [lg_entry_eq]
  generalize (lg_sl ([.ref (ad 13), .int (nI k)]) ++ List.replicate (3 - (lg_sl ([.ref (ad 13), .int (nI k)])).length) Slot.unset).toArray = ls at hl ⊢
  have hl : lv_has ls 3 [(0, .ref (ad 13)), (1, .int (nI k))] := hl
  have hP : va_P D vwCl [(ad 13, .inr (0, [.ref (ad 14), .ref (ad 0), .ref (ad 11), .ref (ad 16)])), (ad 14, .inr (1, [.ref (ad 15), .int (nI cn)])), (ad 15, .inl (cB, 16384, .inl g))] s.heap := hP
  refine lv_aload_n hx hb d_TT_end_0 rfl (lv_at hl 0 rfl) ?_
  refine va_get (D := D) (ci := 0) (v := .ref (ad 14)) (C := R_TT) (T := F_TT) (N := 4) hx hb htT i_TT hown hK hP 0 rfl rfl 0 (by decide) (htT _ k_152) (fun _ h9 => h9) rfl d_TT_end_1 ?_
  refine va_get (D := D) (ci := 1) (v := .int (nI cn)) (C := R_BY) (T := F_BY) (N := 2) hx hb htT i_BY hown hK hP 1 rfl rfl 1 (by decide) (htT _ k_39) (fun _ h9 => h9) rfl d_TT_end_4 ?_
  refine lv_istore_n (lv' := [(2, .int (nI cn)), (0, .ref (ad 13)), (1, .int (nI k))]) hx hb d_TT_end_7 rfl hl (by decide) rfl (fun ls hl => ?_)
  refine lv_iload_n hx hb d_TT_end_8 rfl (lv_at hl 2 rfl) ?_
  refine lv_if_lt (tgt := 17) hx hb d_TT_end_9 (by decide) (fun c_9 => ?_) (fun c_9 => ?_)
  · have c_9 : k < 0 := (nI_ltI (a := k) (b := 0) (by omega) (by omega)).mp c_9
    exact absurd c_9 (Nat.not_lt_zero _)
  · have c_9 : ¬ k < 0 := fun z9 => c_9 ((nI_ltI (a := k) (b := 0) (by omega) (by omega)).mpr z9)
    have c_9 := Nat.not_lt.mp c_9
    refine lv_iload_n hx hb d_TT_end_12 rfl (lv_at hl 2 rfl) ?_
    refine lv_iload_n hx hb d_TT_end_13 rfl (lv_at hl 0 rfl) ?_
    refine lv_icmp_le (tgt := 27) hx hb d_TT_end_14 (by decide) (fun c_14 => ?_) (fun c_14 => ?_)
    · have c_14 : k ≤ cn := (nI_leI (a := k) (b := cn) (by omega) (by omega)).mp c_14
      refine lv_aload_n hx hb d_TT_end_27 rfl (lv_at hl 1 rfl) ?_
      refine va_get (D := D) (ci := 0) (v := .ref (ad 14)) (C := R_TT) (T := F_TT) (N := 4) hx hb htT i_TT hown hK hP 0 rfl rfl 0 (by decide) (htT _ k_152) (fun _ h9 => h9) rfl d_TT_end_28 ?_
      refine lv_iload_n hx hb d_TT_end_31 rfl (lv_at hl 2 rfl) ?_
      refine va_put (D := D) (ci := 1) (v := .int (nI k)) (ty := .int) (C := R_BY) (T := F_BY) (N := 2) hx hb htT i_BY t_BY t_BY_ok n_BY hown hK hP hD hS 1 rfl rfl 1 (by decide) (htT _ k_39) (fun _ h9 => h9) rfl (by decide +kernel) rfl rfl (Nat.le_of_ble_eq_true rfl) d_TT_end_32 (fun H locs hP hD hS => ?_)
      have hP : va_P D vwCl [(ad 13, .inr (0, [.ref (ad 14), .ref (ad 0), .ref (ad 11), .ref (ad 16)])), (ad 14, .inr (1, [.ref (ad 15), .int (nI k)])), (ad 15, .inl (cB, 16384, .inl g))] H := hP
      have hD : va_D A [(ad 13, .inr (0, [.ref (ad 14), .ref (ad 0), .ref (ad 11), .ref (ad 16)])), (ad 14, .inr (1, [.ref (ad 15), .int (nI k)])), (ad 15, .inl (cB, 16384, .inl g))] := hD
      refine lv_iload_n hx hb d_TT_end_35 rfl (lv_at hl 0 rfl) ?_
      have o_r : (nI cn) = (nI cn) := rfl
      have hP9 : va_P D vwCl [(ad 13, .inr (0, [.ref (ad 14), .ref (ad 0), .ref (ad 11), .ref (ad 16)])), (ad 14, .inr (1, [.ref (ad 15), .int (nI k)])), (ad 15, .inl (cB, 16384, .inl g))] H := hP.sub [0, 1, 2] rfl
      have hD9 : va_D A [(ad 13, .inr (0, [.ref (ad 14), .ref (ad 0), .ref (ad 11), .ref (ad 16)])), (ad 14, .inr (1, [.ref (ad 15), .int (nI k)])), (ad 15, .inl (cB, 16384, .inl g))] := hD.sub [0, 1, 2] (by decide) rfl
      exact W.iret (v := nI cn) hx hb hr (fun t ht hW => ⟨⟨_, (), rfl, o_r, by rw [ht]; exact hP9, hD9⟩, hS.F ht⟩) hS.2.2 d_TT_end_36
    · have c_14 : ¬ k ≤ cn := fun z9 => c_14 ((nI_leI (a := k) (b := cn) (by omega) (by omega)).mpr z9)
      have c_14 := Nat.not_le.mp c_14
      exact absurd hk (by omega)
abbrev rm_LW_feed : Room := { frames := 2, cells := 0, slots := 0, locals := 47 }
abbrev q_LW_feed (D : va_G) (cI cB cL : ClassId) (ad : Nat → Nat) (g : Nat → Int32) (cn : Nat) (x0 x1 x2 x3 x4 : Int32) (A : Nat → Prop) : Array Value → State → Outcome → State → Prop := va_Qi (fun r9 _ => r9 = 0) (fun (_ : Unit) t => va_P D vwCl [(ad 13, .inr (0, [.ref (ad 14), .ref (ad 0), .ref (ad 11), .ref (ad 16)])), (ad 14, .inr (1, [.ref (ad 15), .int (nI (cn + 20))])), (ad 15, .inl (cB, 16384, .inl (tt_f20 g cn x0 x1 x2 x3 x4)))] t.heap ∧ va_D A [(ad 13, .inr (0, [.ref (ad 14), .ref (ad 0), .ref (ad 11), .ref (ad 16)])), (ad 14, .inr (1, [.ref (ad 15), .int (nI (cn + 20))])), (ad 15, .inl (cB, 16384, .inl (tt_f20 g cn x0 x1 x2 x3 x4)))]) A
set_option maxHeartbeats 4000000 in
set_option maxRecDepth 100000 in
theorem c_LW_feed (l : Launch) (D : va_G) (cI cB cL : ClassId) (ad : Nat → Nat) (g : Nat → Int32) (cn : Nat) (x0 x1 x2 x3 x4 : Int32) (hn : cn + 20 ≤ 16384) (sz : Nat) : Met l y_LW_feed w_LW_feed rm_LW_feed (va_Pc [.ref (ad 13), .int x0, .int x1, .int x2, .int x3, .int x4] (fun U => U.heap.size = sz ∧ va_P D vwCl [(ad 13, .inr (0, [.ref (ad 14), .ref (ad 0), .ref (ad 11), .ref (ad 16)])), (ad 14, .inr (1, [.ref (ad 15), .int (nI cn)])), (ad 15, .inl (cB, 16384, .inl g))] U.heap ∧ va_K D vwCl (tt_ty cI cB cL) U ∧ va_D (fun _ => True) [(ad 13, .inr (0, [.ref (ad 14), .ref (ad 0), .ref (ad 11), .ref (ad 16)])), (ad 14, .inr (1, [.ref (ad 15), .int (nI cn)])), (ad 15, .inl (cB, 16384, .inl g))])) (q_LW_feed D cI cB cL ad g cn x0 x1 x2 x3 x4 (va_A [(ad 13, .inr (0, [.ref (ad 14), .ref (ad 0), .ref (ad 11), .ref (ad 16)])), (ad 14, .inr (1, [.ref (ad 15), .int (nI cn)])), (ad 15, .inl (cB, 16384, .inl g))] sz)) 0 0 (va_A [(ad 13, .inr (0, [.ref (ad 14), .ref (ad 0), .ref (ad 11), .ref (ad 16)])), (ad 14, .inr (1, [.ref (ad 15), .int (nI cn)])), (ad 15, .inl (cB, 16384, .inl g))] sz) := by
  refine va_MetW (hh := [(0, 11, 14, 13)]) (cc := b_LW_feed) (maxL := 7) (ret := (some .int)) (by decide) rfl ?_
  intro p e s m args below meth c s₁ B hml hv
  obtain ⟨rfl, hsz, hP, hK, hD0⟩ := hv
  have hx := B.exec
  have hb := B.bytes
  have hr := B.returns
  have hts := atoms_spec (ws := w_LW_feed) B.pre
  have htT : ∀ w ∈ tt_T, w.before _ s = true := fun w h => hts w (List.mem_cons_of_mem _ h)
  have hown : s.vm.findClass R_LW = some m.cls := findClass_of_methodNamed B.named
  have hlocks := B.notSynchronized
  subst hsz
  have hD := hD0.self (sz := s.heap.size)
  generalize hAe : va_A [(ad 13, .inr (0, [.ref (ad 14), .ref (ad 0), .ref (ad 11), .ref (ad 16)])), (ad 14, .inr (1, [.ref (ad 15), .int (nI cn)])), (ad 15, .inl (cB, 16384, .inl g))] s.heap.size = A at hD ⊢
  have hA : ∀ q : Nat, s.heap.size ≤ q → A q := fun q h => by rw [← hAe]; exact Or.inr h
  have hS : va_S A s.heap s.heap [] := va_S.rf
  have hl := lv_entry ([.ref (ad 13), .int x0, .int x1, .int x2, .int x3, .int x4]) (n := 7) (Nat.le_of_ble_eq_true rfl)
  rw [lg_entry_eq]
  generalize (lg_sl ([.ref (ad 13), .int x0, .int x1, .int x2, .int x3, .int x4]) ++ List.replicate (7 - (lg_sl ([.ref (ad 13), .int x0, .int x1, .int x2, .int x3, .int x4])).length) Slot.unset).toArray = ls at hl ⊢
  have hl : lv_has ls 7 [(0, .ref (ad 13)), (1, .int x0), (2, .int x1), (3, .int x2), (4, .int x3), (5, .int x4)] := hl
  have hP : va_P D vwCl [(ad 13, .inr (0, [.ref (ad 14), .ref (ad 0), .ref (ad 11), .ref (ad 16)])), (ad 14, .inr (1, [.ref (ad 15), .int (nI cn)])), (ad 15, .inl (cB, 16384, .inl g))] s.heap := hP
  refine lv_aload_n hx hb d_LW_feed_0 rfl (lv_at hl 0 rfl) ?_
  refine lv_iload_n hx hb d_LW_feed_1 rfl (lv_at hl 1 rfl) ?_
  refine lv_iload_n hx hb d_LW_feed_2 rfl (lv_at hl 2 rfl) ?_
  refine lv_iload_n hx hb d_LW_feed_3 rfl (lv_at hl 3 rfl) ?_
  refine lv_iload hx hb d_LW_feed_4 (lv_at hl 4 rfl) ?_
  refine lv_iload hx hb d_LW_feed_6 (lv_at hl 5 rfl) ?_
  refine tt_muV (wr := []) (va_runV (As := [.int x0, .int x1, .int x2, .int x3, .int x4]) (rest := []) ⟨hx, hb, hml, hown, hts⟩ (c_TT_feed l D cI cB cL ad g cn x0 x1 x2 x3 x4 (by omega) _) (cwV 5 hts (tt_gV k_531 k_532 k_533 k_1 k_534) rfl rfl rfl hv_TT_feed ⟨Nat.le_of_ble_eq_true rfl, Nat.le_of_ble_eq_true rfl⟩) (tt_mupreV (w := [(ad 13, .inr (0, [.ref (ad 14), .ref (ad 0), .ref (ad 11), .ref (ad 16)])), (ad 14, .inr (1, [.ref (ad 15), .int (nI cn)])), (ad 15, .inl (cB, 16384, .inl g))]) hK hP hD [0, 1, 2] rfl (by decide) rfl (va_recv hK hP (ci := 0) (q0 := 0) rfl rfl)) rfl rfl hl.1 rfl (lv_room (Nat.le_of_ble_eq_true rfl)) d_LW_feed_8 ⟨Nat.zero_le _, Nat.zero_le _⟩) hS hP hD hA [0, 1, 2] [] rfl rfl (by decide) (by decide) (fun H locs hP hD hS => ?_)
  have hP : va_P D vwCl [(ad 13, .inr (0, [.ref (ad 14), .ref (ad 0), .ref (ad 11), .ref (ad 16)])), (ad 14, .inr (1, [.ref (ad 15), .int (nI (cn + 20))])), (ad 15, .inl (cB, 16384, .inl (tt_f20 g cn x0 x1 x2 x3 x4)))] H := hP
  have hD : va_D A [(ad 13, .inr (0, [.ref (ad 14), .ref (ad 0), .ref (ad 11), .ref (ad 16)])), (ad 14, .inr (1, [.ref (ad 15), .int (nI (cn + 20))])), (ad 15, .inl (cB, 16384, .inl (tt_f20 g cn x0 x1 x2 x3 x4)))] := hD
  refine lv_goto (tgt := 18) hx hb d_LW_feed_11 (by decide) ?_
  refine lv_iconst (v := 0) hx hb d_LW_feed_18 (by decide) ?_
  have o_r : (0 : Int32) = 0 := rfl
  have hP9 : va_P D vwCl [(ad 13, .inr (0, [.ref (ad 14), .ref (ad 0), .ref (ad 11), .ref (ad 16)])), (ad 14, .inr (1, [.ref (ad 15), .int (nI (cn + 20))])), (ad 15, .inl (cB, 16384, .inl (tt_f20 g cn x0 x1 x2 x3 x4)))] H := hP.sub [0, 1, 2] rfl
  have hD9 : va_D A [(ad 13, .inr (0, [.ref (ad 14), .ref (ad 0), .ref (ad 11), .ref (ad 16)])), (ad 14, .inr (1, [.ref (ad 15), .int (nI (cn + 20))])), (ad 15, .inl (cB, 16384, .inl (tt_f20 g cn x0 x1 x2 x3 x4)))] := hD.sub [0, 1, 2] (by decide) rfl
  exact W.iret (v := 0) hx hb hr (fun t ht hW => ⟨⟨_, (), rfl, o_r, by rw [ht]; exact hP9, hD9⟩, hS.F ht⟩) hS.2.2 d_LW_feed_19
abbrev rm_LW_endv : Room := { frames := 1, cells := 0, slots := 0, locals := 22 }
abbrev q_LW_endv (D : va_G) (cI cB cL : ClassId) (ad : Nat → Nat) (g : Nat → Int32) (cn : Nat) (k ar : Nat) (ov : Nat → Int64) (A : Nat → Prop) : Array Value → State → Outcome → State → Prop := va_Qi (fun r9 _ => r9 = 0) (fun (_ : Unit) t => va_P D vwCl [(ad 13, .inr (0, [.ref (ad 14), .ref (ad 0), .ref (ad 11), .ref (ad 16)])), (ad 14, .inr (1, [.ref (ad 15), .int (nI k)])), (ad 15, .inl (cB, 16384, .inl g)), (ar, .inl (cL, 1, .inr (.inl (vp_updL ov 0 (lN cn)))))] t.heap ∧ va_D A [(ad 13, .inr (0, [.ref (ad 14), .ref (ad 0), .ref (ad 11), .ref (ad 16)])), (ad 14, .inr (1, [.ref (ad 15), .int (nI k)])), (ad 15, .inl (cB, 16384, .inl g)), (ar, .inl (cL, 1, .inr (.inl (vp_updL ov 0 (lN cn)))))]) A
set_option maxHeartbeats 4000000 in
set_option maxRecDepth 100000 in
theorem c_LW_endv (l : Launch) (D : va_G) (cI cB cL : ClassId) (ad : Nat → Nat) (g : Nat → Int32) (cn : Nat) (k ar : Nat) (ov : Nat → Int64) (hc : cn ≤ 16384) (hk : k ≤ cn) (sz : Nat) : Met l y_LW_end w_LW_end rm_LW_endv (va_Pc [.ref (ad 13), .int (nI k), .ref ar] (fun U => U.heap.size = sz ∧ va_P D vwCl [(ad 13, .inr (0, [.ref (ad 14), .ref (ad 0), .ref (ad 11), .ref (ad 16)])), (ad 14, .inr (1, [.ref (ad 15), .int (nI cn)])), (ad 15, .inl (cB, 16384, .inl g)), (ar, .inl (cL, 1, .inr (.inl ov)))] U.heap ∧ va_K D vwCl (tt_ty cI cB cL) U ∧ va_D (fun _ => True) [(ad 13, .inr (0, [.ref (ad 14), .ref (ad 0), .ref (ad 11), .ref (ad 16)])), (ad 14, .inr (1, [.ref (ad 15), .int (nI cn)])), (ad 15, .inl (cB, 16384, .inl g)), (ar, .inl (cL, 1, .inr (.inl ov)))])) (q_LW_endv D cI cB cL ad g cn k ar ov (va_A [(ad 13, .inr (0, [.ref (ad 14), .ref (ad 0), .ref (ad 11), .ref (ad 16)])), (ad 14, .inr (1, [.ref (ad 15), .int (nI cn)])), (ad 15, .inl (cB, 16384, .inl g)), (ar, .inl (cL, 1, .inr (.inl ov)))] sz)) 0 0 (va_A [(ad 13, .inr (0, [.ref (ad 14), .ref (ad 0), .ref (ad 11), .ref (ad 16)])), (ad 14, .inr (1, [.ref (ad 15), .int (nI cn)])), (ad 15, .inl (cB, 16384, .inl g)), (ar, .inl (cL, 1, .inr (.inl ov)))] sz) := by
  refine va_MetW (hh := [(0, 9, 12, 19)]) (cc := b_LW_end) (maxL := 4) (ret := (some .int)) (by decide) rfl ?_
  intro p e s m args below meth c s₁ B hml hv
  obtain ⟨rfl, hsz, hP, hK, hD0⟩ := hv
  have hx := B.exec
  have hb := B.bytes
  have hr := B.returns
  have hts := atoms_spec (ws := w_LW_end) B.pre
  have htT : ∀ w ∈ tt_T, w.before _ s = true := fun w h => hts w (List.mem_cons_of_mem _ h)
  have hown : s.vm.findClass R_LW = some m.cls := findClass_of_methodNamed B.named
  have hlocks := B.notSynchronized
  subst hsz
  have hD := hD0.self (sz := s.heap.size)
  generalize hAe : va_A [(ad 13, .inr (0, [.ref (ad 14), .ref (ad 0), .ref (ad 11), .ref (ad 16)])), (ad 14, .inr (1, [.ref (ad 15), .int (nI cn)])), (ad 15, .inl (cB, 16384, .inl g)), (ar, .inl (cL, 1, .inr (.inl ov)))] s.heap.size = A at hD ⊢
  have hA : ∀ q : Nat, s.heap.size ≤ q → A q := fun q h => by rw [← hAe]; exact Or.inr h
  have hS : va_S A s.heap s.heap [] := va_S.rf
  have hl := lv_entry ([.ref (ad 13), .int (nI k), .ref ar]) (n := 4) (Nat.le_of_ble_eq_true rfl)
  rw [lg_entry_eq]
  generalize (lg_sl ([.ref (ad 13), .int (nI k), .ref ar]) ++ List.replicate (4 - (lg_sl ([.ref (ad 13), .int (nI k), .ref ar])).length) Slot.unset).toArray = ls at hl ⊢
  have hl : lv_has ls 4 [(0, .ref (ad 13)), (1, .int (nI k)), (2, .ref ar)] := hl
  have hP : va_P D vwCl [(ad 13, .inr (0, [.ref (ad 14), .ref (ad 0), .ref (ad 11), .ref (ad 16)])), (ad 14, .inr (1, [.ref (ad 15), .int (nI cn)])), (ad 15, .inl (cB, 16384, .inl g)), (ar, .inl (cL, 1, .inr (.inl ov)))] s.heap := hP
  refine lv_aload_n hx hb d_LW_end_0 rfl (lv_at hl 2 rfl) ?_
  refine lv_iconst (v := 0) hx hb d_LW_end_1 (by decide) ?_
  refine lv_aload_n hx hb d_LW_end_2 rfl (lv_at hl 0 rfl) ?_
  refine lv_iload_n hx hb d_LW_end_3 rfl (lv_at hl 1 rfl) ?_
  refine tt_muI (wr := [(ar, .inl (cL, 1, .inr (.inl ov)))]) (va_runV (As := [.int (nI k)]) (rest := [.int 0, .ref ar]) ⟨hx, hb, hml, hown, hts⟩ (c_TT_endv l D cI cB cL ad g cn k (by omega) (by omega) _) (cwV 1 hts (tt_gV k_609 k_610 k_611 k_1 k_612) rfl rfl rfl hv_TT_end ⟨Nat.le_of_ble_eq_true rfl, Nat.le_of_ble_eq_true rfl⟩) (tt_mupreV (w := [(ad 13, .inr (0, [.ref (ad 14), .ref (ad 0), .ref (ad 11), .ref (ad 16)])), (ad 14, .inr (1, [.ref (ad 15), .int (nI cn)])), (ad 15, .inl (cB, 16384, .inl g))]) hK hP hD [0, 1, 2] rfl (by decide) rfl (va_recv hK hP (ci := 0) (q0 := 0) rfl rfl)) rfl rfl hl.1 rfl (lv_room (Nat.le_of_ble_eq_true rfl)) d_LW_end_4 ⟨Nat.zero_le _, Nat.zero_le _⟩) hS hP hD hA [0, 1, 2] [3] rfl rfl (by decide) (by decide) (fun H locs hP hD hS => ?_)
  have hP : va_P D vwCl [(ar, .inl (cL, 1, .inr (.inl ov))), (ad 13, .inr (0, [.ref (ad 14), .ref (ad 0), .ref (ad 11), .ref (ad 16)])), (ad 14, .inr (1, [.ref (ad 15), .int (nI k)])), (ad 15, .inl (cB, 16384, .inl g))] H := hP
  have hD : va_D A [(ar, .inl (cL, 1, .inr (.inl ov))), (ad 13, .inr (0, [.ref (ad 14), .ref (ad 0), .ref (ad 11), .ref (ad 16)])), (ad 14, .inr (1, [.ref (ad 15), .int (nI k)])), (ad 15, .inl (cB, 16384, .inl g))] := hD
  refine lv_i2l (v := lN cn) hx hb d_LW_end_7 (nI_l (by omega)) ?_
  refine va_last (D := D) hx hb hK hP hD hS 0 2 rfl rfl (by unfold vp_in; decide) d_LW_end_8 (fun H locs hP hD hS => ?_)
  have hP : va_P D vwCl [(ar, .inl (cL, 1, .inr (.inl (vp_updL ov 0 (lN cn))))), (ad 13, .inr (0, [.ref (ad 14), .ref (ad 0), .ref (ad 11), .ref (ad 16)])), (ad 14, .inr (1, [.ref (ad 15), .int (nI k)])), (ad 15, .inl (cB, 16384, .inl g))] H := hP
  have hD : va_D A [(ar, .inl (cL, 1, .inr (.inl (vp_updL ov 0 (lN cn))))), (ad 13, .inr (0, [.ref (ad 14), .ref (ad 0), .ref (ad 11), .ref (ad 16)])), (ad 14, .inr (1, [.ref (ad 15), .int (nI k)])), (ad 15, .inl (cB, 16384, .inl g))] := hD
  refine lv_goto (tgt := 15) hx hb d_LW_end_9 (by decide) ?_
  refine lv_iconst (v := 0) hx hb d_LW_end_15 (by decide) ?_
  have o_r : (0 : Int32) = 0 := rfl
  have hP9 : va_P D vwCl [(ad 13, .inr (0, [.ref (ad 14), .ref (ad 0), .ref (ad 11), .ref (ad 16)])), (ad 14, .inr (1, [.ref (ad 15), .int (nI k)])), (ad 15, .inl (cB, 16384, .inl g)), (ar, .inl (cL, 1, .inr (.inl (vp_updL ov 0 (lN cn)))))] H := hP.sub [1, 2, 3, 0] rfl
  have hD9 : va_D A [(ad 13, .inr (0, [.ref (ad 14), .ref (ad 0), .ref (ad 11), .ref (ad 16)])), (ad 14, .inr (1, [.ref (ad 15), .int (nI k)])), (ad 15, .inl (cB, 16384, .inl g)), (ar, .inl (cL, 1, .inr (.inl (vp_updL ov 0 (lN cn)))))] := hD.sub [1, 2, 3, 0] (by decide) rfl
  exact W.iret (v := 0) hx hb hr (fun t ht hW => ⟨⟨_, (), rfl, o_r, by rw [ht]; exact hP9, hD9⟩, hS.F ht⟩) hS.2.2 d_LW_end_16
