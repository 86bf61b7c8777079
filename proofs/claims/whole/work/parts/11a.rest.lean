abbrev rm_BY_atr : Room := { frames := 0, cells := 0, slots := 0, locals := 0 }
abbrev q_BY_atr (D : va_G) (cI cB cL : ClassId) (a r : Nat) (f : Nat → Int32) (n : Nat) (x : Int32) : Array Value → State → Outcome → State → Prop := va_Qi (fun r9 (_ : Unit) => r9 = (tt_chr f n x)) (fun _ _ => True) (fun _ => False)
set_option maxHeartbeats 4000000 in
set_option maxRecDepth 100000 in
theorem c_BY_atr (l : Launch) (D : va_G) (cI cB cL : ClassId) (a r : Nat) (f : Nat → Int32) (n : Nat) (x : Int32) (hn : n ≤ 16384) : Met l y_BY_at w_BY_at rm_BY_atr (va_Pc [.ref a, .int x] (fun U => va_P D vwCl [(a, .inr (1, [.ref r, .int (nI n)])), (r, .inl (cB, 16384, .inl f))] U.heap ∧ va_K D vwCl (tt_ty cI cB cL) U)) (q_BY_atr D cI cB cL a r f n x) 0 0 (fun _ => False) := by
  refine Met.ofW (cc := b_BY_at) (maxL := 2) (ret := (some .int)) (by decide) rfl ?_
  intro p e s m args below meth c s₁ B hml hv
  obtain ⟨rfl, hP, hK⟩ := hv
  have hx := B.exec
  have hb := B.bytes
  have hr := B.returns
  have hts := atoms_spec (ws := w_BY_at) B.pre
  have htT : ∀ w ∈ tt_T, w.before _ s = true := fun w h => hts w (List.mem_cons_of_mem _ h)
  have hown : s.vm.findClass R_BY = some m.cls := findClass_of_methodNamed B.named
  have hlocks := B.notSynchronized
  have hS : va_S (fun _ => False) s.heap s.heap [] := va_S.rf
  have hl := lv_entry ([.ref a, .int x]) (n := 2) (Nat.le_of_ble_eq_true rfl)
  rw [lg_entry_eq]
  generalize (lg_sl ([.ref a, .int x]) ++ List.replicate (2 - (lg_sl ([.ref a, .int x])).length) Slot.unset).toArray = ls at hl ⊢
  have hl : lv_has ls 2 [(0, .ref a), (1, .int x)] := hl
  have hP : va_P D vwCl [(a, .inr (1, [.ref r, .int (nI n)])), (r, .inl (cB, 16384, .inl f))] s.heap := hP
  refine lv_iload_n hx hb d_BY_at_0 rfl (lv_at hl 1 rfl) ?_
  refine lv_if_lt (tgt := 25) hx hb d_BY_at_1 (by decide) (fun c_1 => ?_) (fun c_1 => ?_)
  · skip
    refine lv_iconst (v := (-1)) hx hb d_BY_at_25 (by decide) ?_
    have o_r : ((-1) : Int32) = (tt_chr f n x) := by first | contradiction | (simp [tt_chr, tt_b, c_1] <;> (intros; omega))
    exact W.iret (v := (-1)) hx hb hr (fun t ht hW => ⟨⟨_, (), rfl, o_r, trivial⟩, hS.F ht⟩) hS.2.2 d_BY_at_26
  · skip
    refine lv_iload_n hx hb d_BY_at_4 rfl (lv_at hl 1 rfl) ?_
    refine lv_aload_n hx hb d_BY_at_5 rfl (lv_at hl 0 rfl) ?_
    refine va_get (D := D) (ci := 1) (v := .int (nI n)) (C := R_BY) (T := F_BY) (N := 2) hx hb htT i_BY hown hK hP 0 rfl rfl 1 (by decide) (htT _ k_38) (fun _ h9 => h9) rfl d_BY_at_6 ?_
    refine lv_icmp_ge (tgt := 25) hx hb d_BY_at_9 (by decide) (fun c_9 => ?_) (fun c_9 => ?_)
    · skip
      refine lv_iconst (v := (-1)) hx hb d_BY_at_25 (by decide) ?_
      have o_r : ((-1) : Int32) = (tt_chr f n x) := by first | contradiction | (simp [tt_chr, tt_b, c_1, c_9] <;> (intros; omega))
      exact W.iret (v := (-1)) hx hb hr (fun t ht hW => ⟨⟨_, (), rfl, o_r, trivial⟩, hS.F ht⟩) hS.2.2 d_BY_at_26
    · skip
      refine lv_aload_n hx hb d_BY_at_12 rfl (lv_at hl 0 rfl) ?_
      refine va_get (D := D) (ci := 1) (v := .ref r) (C := R_BY) (T := F_BY) (N := 2) hx hb htT i_BY hown hK hP 0 rfl rfl 0 (by decide) (htT _ k_37) (fun _ h9 => h9) rfl d_BY_at_13 ?_
      refine lv_iload_n hx hb d_BY_at_16 rfl (lv_at hl 1 rfl) ?_
      refine va_bald (D := D) hx hb hK hP 1 1 rfl rfl (tt_vin c_1 c_9 hn (by decide)) d_BY_at_17 ?_
      refine lv_sipush (v := 255) hx hb d_BY_at_18 (by decide) ?_
      refine lv_iand hx hb d_BY_at_21 ?_
      refine lv_goto (tgt := 26) hx hb d_BY_at_22 (by decide) ?_
      have o_r : ((f x.toNatClampNeg) &&& 255) = (tt_chr f n x) := by first | contradiction | (simp [tt_chr, tt_b, c_1, c_9] <;> (intros; omega))
      exact W.iret (v := (f x.toNatClampNeg) &&& 255) hx hb hr (fun t ht hW => ⟨⟨_, (), rfl, o_r, trivial⟩, hS.F ht⟩) hS.2.2 d_BY_at_26
abbrev rm_BY_inside : Room := { frames := 1, cells := 0, slots := 0, locals := 21 }
abbrev q_BY_inside (D : va_G) (cI cB cL : ClassId) (a r : Nat) (f : Nat → Int32) (n : Nat) (x y : Nat) (i : Int32) : Array Value → State → Outcome → State → Prop := va_Qi (fun r9 (_ : Unit) => r9 = (tt_ins f n x y i)) (fun _ _ => True) (fun _ => False)
set_option maxHeartbeats 4000000 in
set_option maxRecDepth 100000 in
theorem c_BY_inside (l : Launch) (D : va_G) (cI cB cL : ClassId) (a r : Nat) (f : Nat → Int32) (n : Nat) (x y : Nat) (i : Int32) (hn : n ≤ 16384) (hxy : x ≤ y) (hy : y < 1073741824) : Met l y_BY_inside w_BY_inside rm_BY_inside (va_Pc [.ref a, .int (nI x), .int (nI y), .int i] (fun U => va_P D vwCl [(a, .inr (1, [.ref r, .int (nI n)])), (r, .inl (cB, 16384, .inl f))] U.heap ∧ va_K D vwCl (tt_ty cI cB cL) U)) (q_BY_inside D cI cB cL a r f n x y i) 0 0 (fun _ => False) := by
  refine Met.ofW (cc := b_BY_inside) (maxL := 4) (ret := (some .int)) (by decide) rfl ?_
  intro p e s m args below meth c s₁ B hml hv
  obtain ⟨rfl, hP, hK⟩ := hv
  have hx := B.exec
  have hb := B.bytes
  have hr := B.returns
  have hts := atoms_spec (ws := w_BY_inside) B.pre
  have htT : ∀ w ∈ tt_T, w.before _ s = true := fun w h => hts w (List.mem_cons_of_mem _ h)
  have hown : s.vm.findClass R_BY = some m.cls := findClass_of_methodNamed B.named
  have hlocks := B.notSynchronized
  have hS : va_S (fun _ => False) s.heap s.heap [] := va_S.rf
  have hl := lv_entry ([.ref a, .int (nI x), .int (nI y), .int i]) (n := 4) (Nat.le_of_ble_eq_true rfl)
  rw [lg_entry_eq]
  generalize (lg_sl ([.ref a, .int (nI x), .int (nI y), .int i]) ++ List.replicate (4 - (lg_sl ([.ref a, .int (nI x), .int (nI y), .int i])).length) Slot.unset).toArray = ls at hl ⊢
  have hl : lv_has ls 4 [(0, .ref a), (1, .int (nI x)), (2, .int (nI y)), (3, .int i)] := hl
  have hP : va_P D vwCl [(a, .inr (1, [.ref r, .int (nI n)])), (r, .inl (cB, 16384, .inl f))] s.heap := hP
  refine lv_iload_n hx hb d_BY_inside_0 rfl (lv_at hl 3 rfl) ?_
  refine lv_if_lt (tgt := 21) hx hb d_BY_inside_1 (by decide) (fun c_1 => ?_) (fun c_1 => ?_)
  · skip
    refine lv_iconst (v := (-1)) hx hb d_BY_inside_21 (by decide) ?_
    have o_r : ((-1) : Int32) = (tt_ins f n x y i) := by first | contradiction | (simp [tt_ins, tt_b, c_1] <;> (intros; omega))
    exact W.iret (v := (-1)) hx hb hr (fun t ht hW => ⟨⟨_, (), rfl, o_r, trivial⟩, hS.F ht⟩) hS.2.2 d_BY_inside_22
  · skip
    refine lv_iload_n hx hb d_BY_inside_4 rfl (lv_at hl 3 rfl) ?_
    refine lv_iload_n hx hb d_BY_inside_5 rfl (lv_at hl 2 rfl) ?_
    refine lv_iload_n hx hb d_BY_inside_6 rfl (lv_at hl 1 rfl) ?_
    refine lv_isub hx hb d_BY_inside_7 ?_
    refine tt_ti (show (nI y) - (nI x) = nI (y - x) from pk_sub (a := y) (b := x) (by omega)) ?_
    refine lv_icmp_ge (tgt := 21) hx hb d_BY_inside_8 (by decide) (fun c_8 => ?_) (fun c_8 => ?_)
    · skip
      refine lv_iconst (v := (-1)) hx hb d_BY_inside_21 (by decide) ?_
      have o_r : ((-1) : Int32) = (tt_ins f n x y i) := by first | contradiction | (simp [tt_ins, tt_b, c_1, c_8] <;> (intros; omega))
      exact W.iret (v := (-1)) hx hb hr (fun t ht hW => ⟨⟨_, (), rfl, o_r, trivial⟩, hS.F ht⟩) hS.2.2 d_BY_inside_22
    · skip
      have hlt := tt_ltraw c_1 c_8 (by omega)
      refine lv_aload_n hx hb d_BY_inside_11 rfl (lv_at hl 0 rfl) ?_
      refine lv_iload_n hx hb d_BY_inside_12 rfl (lv_at hl 1 rfl) ?_
      refine lv_iload_n hx hb d_BY_inside_13 rfl (lv_at hl 3 rfl) ?_
      refine lv_iadd hx hb d_BY_inside_14 ?_
      refine tt_ti (show (nI x) + i = nI (x + i.toNatClampNeg) from tt_addraw c_1) ?_
      refine tt_roI (va_runV (As := [.int (nI (x + i.toNatClampNeg))]) (rest := []) ⟨hx, hb, hml, hown, hts⟩ (c_BY_at l D cI cB cL a r f n (x + i.toNatClampNeg) (by omega) (by omega)) (cwV 1 hts (tt_gV k_173 k_174 k_175 k_2 k_176) rfl rfl rfl hv_BY_at ⟨Nat.le_of_ble_eq_true rfl, Nat.le_of_ble_eq_true rfl⟩) (tt_ropreV (w := [(a, .inr (1, [.ref r, .int (nI n)])), (r, .inl (cB, 16384, .inl f))]) hK hP [0, 1] rfl (va_recv hK hP (ci := 1) (q0 := 0) rfl rfl)) rfl rfl hl.1 rfl (lv_room (Nat.le_of_ble_eq_true rfl)) d_BY_inside_15 ⟨Nat.zero_le _, Nat.zero_le _⟩) hS hP (fun H locs hP hS => ?_)
      refine lv_goto (tgt := 22) hx hb d_BY_inside_18 (by decide) ?_
      have o_r : (tt_ch f n (x + i.toNatClampNeg)) = (tt_ins f n x y i) := by first | contradiction | (simp [tt_ins, tt_b, c_1, c_8] <;> (intros; omega))
      exact W.iret (v := tt_ch f n (x + i.toNatClampNeg)) hx hb hr (fun t ht hW => ⟨⟨_, (), rfl, o_r, trivial⟩, hS.F ht⟩) hS.2.2 d_BY_inside_22
abbrev rm_BY_addFour : Room := { frames := 0, cells := 0, slots := 0, locals := 0 }
abbrev q_BY_addFour (D : va_G) (cI cB cL : ClassId) (a r : Nat) (f : Nat → Int32) (n : Nat) (v : Int32) (A : Nat → Prop) : Array Value → State → Outcome → State → Prop := va_Qv (fun _ => True) (fun (_ : Unit) t => va_P D vwCl [(a, .inr (1, [.ref r, .int (nI (n + 4))])), (r, .inl (cB, 16384, .inl (tt_f4 f n v)))] t.heap ∧ va_D A [(a, .inr (1, [.ref r, .int (nI (n + 4))])), (r, .inl (cB, 16384, .inl (tt_f4 f n v)))]) A
set_option maxHeartbeats 4000000 in
set_option maxRecDepth 100000 in
theorem c_BY_addFour (l : Launch) (D : va_G) (cI cB cL : ClassId) (a r : Nat) (f : Nat → Int32) (n : Nat) (v : Int32) (hn : n + 4 ≤ 16384) (sz : Nat) : Met l y_BY_addFour w_BY_addFour rm_BY_addFour (va_Pc [.ref a, .int v] (fun U => U.heap.size = sz ∧ va_P D vwCl [(a, .inr (1, [.ref r, .int (nI n)])), (r, .inl (cB, 16384, .inl f))] U.heap ∧ va_K D vwCl (tt_ty cI cB cL) U ∧ va_D (fun _ => True) [(a, .inr (1, [.ref r, .int (nI n)])), (r, .inl (cB, 16384, .inl f))])) (q_BY_addFour D cI cB cL a r f n v (va_A [(a, .inr (1, [.ref r, .int (nI n)])), (r, .inl (cB, 16384, .inl f))] sz)) 0 0 (va_A [(a, .inr (1, [.ref r, .int (nI n)])), (r, .inl (cB, 16384, .inl f))] sz) := by
  refine Met.ofW (cc := b_BY_addFour) (maxL := 3) (ret := none) (by decide) rfl ?_
  intro p e s m args below meth c s₁ B hml hv
  obtain ⟨rfl, hsz, hP, hK, hD0⟩ := hv
  have hx := B.exec
  have hb := B.bytes
  have hr := B.returns
  have hts := atoms_spec (ws := w_BY_addFour) B.pre
  have htT : ∀ w ∈ tt_T, w.before _ s = true := fun w h => hts w (List.mem_cons_of_mem _ h)
  have hown : s.vm.findClass R_BY = some m.cls := findClass_of_methodNamed B.named
  have hlocks := B.notSynchronized
  subst hsz
  have hD := hD0.self (sz := s.heap.size)
  generalize hAe : va_A [(a, .inr (1, [.ref r, .int (nI n)])), (r, .inl (cB, 16384, .inl f))] s.heap.size = A at hD ⊢
  have hA : ∀ q : Nat, s.heap.size ≤ q → A q := fun q h => by rw [← hAe]; exact Or.inr h
  have hS : va_S A s.heap s.heap [] := va_S.rf
  have hl := lv_entry ([.ref a, .int v]) (n := 3) (Nat.le_of_ble_eq_true rfl)
  rw [lg_entry_eq]
  generalize (lg_sl ([.ref a, .int v]) ++ List.replicate (3 - (lg_sl ([.ref a, .int v])).length) Slot.unset).toArray = ls at hl ⊢
  have hl : lv_has ls 3 [(0, .ref a), (1, .int v)] := hl
  have hP : va_P D vwCl [(a, .inr (1, [.ref r, .int (nI n)])), (r, .inl (cB, 16384, .inl f))] s.heap := hP
  refine lv_bipush (v := 24) hx hb d_BY_addFour_0 (by decide) ?_
  refine lv_istore_n (lv' := [(2, .int 24), (0, .ref a), (1, .int v)]) hx hb d_BY_addFour_2 rfl hl (by decide) rfl (fun ls hl => ?_)
  refine lv_iload_n hx hb d_BY_addFour_3 rfl (lv_at hl 0 rfl) ?_
  refine lv_if_lt (tgt := 48) hx hb d_BY_addFour_4 (by decide) (fun c_4 => ?_) (fun c_4 => ?_)
  · exact absurd c_4 (by decide)
  · skip
    refine lv_aload_n hx hb d_BY_addFour_7 rfl (lv_at hl 1 rfl) ?_
    refine va_get (D := D) (ci := 1) (v := .int (nI n)) (C := R_BY) (T := F_BY) (N := 2) hx hb htT i_BY hown hK hP 0 rfl rfl 1 (by decide) (htT _ k_38) (fun _ h9 => h9) rfl d_BY_addFour_8 ?_
    refine lv_aload_n hx hb d_BY_addFour_11 rfl (lv_at hl 1 rfl) ?_
    refine va_get (D := D) (ci := 1) (v := .ref r) (C := R_BY) (T := F_BY) (N := 2) hx hb htT i_BY hown hK hP 0 rfl rfl 0 (by decide) (htT _ k_37) (fun _ h9 => h9) rfl d_BY_addFour_12 ?_
    refine va_alen (D := D) (v := nI 16384) hx hb hK hP 1 1 rfl rfl rfl d_BY_addFour_15 ?_
    refine lv_icmp_ge (tgt := 42) hx hb d_BY_addFour_16 (by decide) (fun c_16 => ?_) (fun c_16 => ?_)
    · have c_16 : 16384 ≤ n := (nI_leI (a := 16384) (b := n) (by omega) (by omega)).mp c_16
      exact absurd c_16 (by omega)
    · have c_16 : ¬ 16384 ≤ n := fun z9 => c_16 ((nI_leI (a := 16384) (b := n) (by omega) (by omega)).mpr z9)
      have c_16 := Nat.not_le.mp c_16
      refine lv_aload_n hx hb d_BY_addFour_19 rfl (lv_at hl 1 rfl) ?_
      refine va_get (D := D) (ci := 1) (v := .ref r) (C := R_BY) (T := F_BY) (N := 2) hx hb htT i_BY hown hK hP 0 rfl rfl 0 (by decide) (htT _ k_37) (fun _ h9 => h9) rfl d_BY_addFour_20 ?_
      refine lv_aload_n hx hb d_BY_addFour_23 rfl (lv_at hl 1 rfl) ?_
      refine va_get (D := D) (ci := 1) (v := .int (nI n)) (C := R_BY) (T := F_BY) (N := 2) hx hb htT i_BY hown hK hP 0 rfl rfl 1 (by decide) (htT _ k_38) (fun _ h9 => h9) rfl d_BY_addFour_24 ?_
      refine lv_iload_n hx hb d_BY_addFour_27 rfl (lv_at hl 2 rfl) ?_
      refine lv_iload_n hx hb d_BY_addFour_28 rfl (lv_at hl 0 rfl) ?_
      refine lv_iushr (v := (v.toUInt32 >>> ((24 : Int32).toUInt32 &&& Int32.toUInt32 31)).toInt32) hx hb d_BY_addFour_29 rfl ?_
      refine lv_i2b (v := ((v.toUInt32 >>> ((24 : Int32).toUInt32 &&& Int32.toUInt32 31)).toInt32).toInt8.toInt32) hx hb d_BY_addFour_30 rfl ?_
      refine va_bast (D := D) hx hb hK hP hD hS 1 1 rfl rfl (vp_in_nI (by omega) (by omega)) d_BY_addFour_31 (fun H locs hP hD hS => ?_)
      rw [nI_clamp (show n < 2 ^ 31 by omega), pk_vb] at hP hD
      have hP : va_P D vwCl [(a, .inr (1, [.ref r, .int (nI n)])), (r, .inl (cB, 16384, .inl (upd f n (((v.toUInt32 >>> ((24 : Int32).toUInt32 &&& Int32.toUInt32 31)).toInt32).toInt8.toInt32))))] H := hP
      have hD : va_D A [(a, .inr (1, [.ref r, .int (nI n)])), (r, .inl (cB, 16384, .inl (upd f n (((v.toUInt32 >>> ((24 : Int32).toUInt32 &&& Int32.toUInt32 31)).toInt32).toInt8.toInt32))))] := hD
      refine lv_aload_n hx hb d_BY_addFour_32 rfl (lv_at hl 1 rfl) ?_
      refine lv_dup hx hb d_BY_addFour_33 rfl ?_
      refine va_get (D := D) (ci := 1) (v := .int (nI n)) (C := R_BY) (T := F_BY) (N := 2) hx hb htT i_BY hown hK hP 0 rfl rfl 1 (by decide) (htT _ k_38) (fun _ h9 => h9) rfl d_BY_addFour_34 ?_
      refine lv_iconst (v := 1) hx hb d_BY_addFour_37 (by decide) ?_
      refine lv_iadd hx hb d_BY_addFour_38 ?_
      refine tt_ti (show (nI n) + 1 = nI (n + 1) from nI_add n 1) ?_
      refine va_put (D := D) (ci := 1) (v := .int (nI (n + 1))) (ty := .int) (C := R_BY) (T := F_BY) (N := 2) hx hb htT i_BY t_BY t_BY_ok n_BY hown hK hP hD hS 0 rfl rfl 1 (by decide) (htT _ k_38) (fun _ h9 => h9) rfl (by decide +kernel) rfl rfl (Nat.le_of_ble_eq_true rfl) d_BY_addFour_39 (fun H locs hP hD hS => ?_)
      have hP : va_P D vwCl [(a, .inr (1, [.ref r, .int (nI (n + 1))])), (r, .inl (cB, 16384, .inl (upd f n (((v.toUInt32 >>> ((24 : Int32).toUInt32 &&& Int32.toUInt32 31)).toInt32).toInt8.toInt32))))] H := hP
      have hD : va_D A [(a, .inr (1, [.ref r, .int (nI (n + 1))])), (r, .inl (cB, 16384, .inl (upd f n (((v.toUInt32 >>> ((24 : Int32).toUInt32 &&& Int32.toUInt32 31)).toInt32).toInt8.toInt32))))] := hD
      refine lv_iinc (v := 16) (lv' := [(2, .int 16), (0, .ref a), (1, .int v)]) hx hb d_BY_addFour_42 hl (k := 0) rfl (by decide) (by decide) rfl (fun ls hl => ?_)
      refine lv_goto (tgt := 3) hx hb d_BY_addFour_45 (by decide) ?_
      refine lv_iload_n hx hb d_BY_addFour_3 rfl (lv_at hl 0 rfl) ?_
      refine lv_if_lt (tgt := 48) hx hb d_BY_addFour_4 (by decide) (fun c_4 => ?_) (fun c_4 => ?_)
      · exact absurd c_4 (by decide)
      · skip
        refine lv_aload_n hx hb d_BY_addFour_7 rfl (lv_at hl 1 rfl) ?_
        refine va_get (D := D) (ci := 1) (v := .int (nI (n + 1))) (C := R_BY) (T := F_BY) (N := 2) hx hb htT i_BY hown hK hP 0 rfl rfl 1 (by decide) (htT _ k_38) (fun _ h9 => h9) rfl d_BY_addFour_8 ?_
        refine lv_aload_n hx hb d_BY_addFour_11 rfl (lv_at hl 1 rfl) ?_
        refine va_get (D := D) (ci := 1) (v := .ref r) (C := R_BY) (T := F_BY) (N := 2) hx hb htT i_BY hown hK hP 0 rfl rfl 0 (by decide) (htT _ k_37) (fun _ h9 => h9) rfl d_BY_addFour_12 ?_
        refine va_alen (D := D) (v := nI 16384) hx hb hK hP 1 1 rfl rfl rfl d_BY_addFour_15 ?_
        refine lv_icmp_ge (tgt := 42) hx hb d_BY_addFour_16 (by decide) (fun c_16 => ?_) (fun c_16 => ?_)
        · have c_16 : 16384 ≤ (n + 1) := (nI_leI (a := 16384) (b := (n + 1)) (by omega) (by omega)).mp c_16
          exact absurd c_16 (by omega)
        · have c_16 : ¬ 16384 ≤ (n + 1) := fun z9 => c_16 ((nI_leI (a := 16384) (b := (n + 1)) (by omega) (by omega)).mpr z9)
          have c_16 := Nat.not_le.mp c_16
          refine lv_aload_n hx hb d_BY_addFour_19 rfl (lv_at hl 1 rfl) ?_
          refine va_get (D := D) (ci := 1) (v := .ref r) (C := R_BY) (T := F_BY) (N := 2) hx hb htT i_BY hown hK hP 0 rfl rfl 0 (by decide) (htT _ k_37) (fun _ h9 => h9) rfl d_BY_addFour_20 ?_
          refine lv_aload_n hx hb d_BY_addFour_23 rfl (lv_at hl 1 rfl) ?_
          refine va_get (D := D) (ci := 1) (v := .int (nI (n + 1))) (C := R_BY) (T := F_BY) (N := 2) hx hb htT i_BY hown hK hP 0 rfl rfl 1 (by decide) (htT _ k_38) (fun _ h9 => h9) rfl d_BY_addFour_24 ?_
          refine lv_iload_n hx hb d_BY_addFour_27 rfl (lv_at hl 2 rfl) ?_
          refine lv_iload_n hx hb d_BY_addFour_28 rfl (lv_at hl 0 rfl) ?_
          refine lv_iushr (v := (v.toUInt32 >>> ((16 : Int32).toUInt32 &&& Int32.toUInt32 31)).toInt32) hx hb d_BY_addFour_29 rfl ?_
          refine lv_i2b (v := ((v.toUInt32 >>> ((16 : Int32).toUInt32 &&& Int32.toUInt32 31)).toInt32).toInt8.toInt32) hx hb d_BY_addFour_30 rfl ?_
          refine va_bast (D := D) hx hb hK hP hD hS 1 1 rfl rfl (vp_in_nI (by omega) (by omega)) d_BY_addFour_31 (fun H locs hP hD hS => ?_)
          rw [nI_clamp (show n + 1 < 2 ^ 31 by omega), pk_vb] at hP hD
          have hP : va_P D vwCl [(a, .inr (1, [.ref r, .int (nI (n + 1))])), (r, .inl (cB, 16384, .inl (upd (upd f n (((v.toUInt32 >>> ((24 : Int32).toUInt32 &&& Int32.toUInt32 31)).toInt32).toInt8.toInt32)) (n + 1) (((v.toUInt32 >>> ((16 : Int32).toUInt32 &&& Int32.toUInt32 31)).toInt32).toInt8.toInt32))))] H := hP
          have hD : va_D A [(a, .inr (1, [.ref r, .int (nI (n + 1))])), (r, .inl (cB, 16384, .inl (upd (upd f n (((v.toUInt32 >>> ((24 : Int32).toUInt32 &&& Int32.toUInt32 31)).toInt32).toInt8.toInt32)) (n + 1) (((v.toUInt32 >>> ((16 : Int32).toUInt32 &&& Int32.toUInt32 31)).toInt32).toInt8.toInt32))))] := hD
          refine lv_aload_n hx hb d_BY_addFour_32 rfl (lv_at hl 1 rfl) ?_
          refine lv_dup hx hb d_BY_addFour_33 rfl ?_
          refine va_get (D := D) (ci := 1) (v := .int (nI (n + 1))) (C := R_BY) (T := F_BY) (N := 2) hx hb htT i_BY hown hK hP 0 rfl rfl 1 (by decide) (htT _ k_38) (fun _ h9 => h9) rfl d_BY_addFour_34 ?_
          refine lv_iconst (v := 1) hx hb d_BY_addFour_37 (by decide) ?_
          refine lv_iadd hx hb d_BY_addFour_38 ?_
          refine tt_ti (show (nI (n + 1)) + 1 = nI (n + 2) from nI_add (n + 1) 1) ?_
          refine va_put (D := D) (ci := 1) (v := .int (nI (n + 2))) (ty := .int) (C := R_BY) (T := F_BY) (N := 2) hx hb htT i_BY t_BY t_BY_ok n_BY hown hK hP hD hS 0 rfl rfl 1 (by decide) (htT _ k_38) (fun _ h9 => h9) rfl (by decide +kernel) rfl rfl (Nat.le_of_ble_eq_true rfl) d_BY_addFour_39 (fun H locs hP hD hS => ?_)
          have hP : va_P D vwCl [(a, .inr (1, [.ref r, .int (nI (n + 2))])), (r, .inl (cB, 16384, .inl (upd (upd f n (((v.toUInt32 >>> ((24 : Int32).toUInt32 &&& Int32.toUInt32 31)).toInt32).toInt8.toInt32)) (n + 1) (((v.toUInt32 >>> ((16 : Int32).toUInt32 &&& Int32.toUInt32 31)).toInt32).toInt8.toInt32))))] H := hP
          have hD : va_D A [(a, .inr (1, [.ref r, .int (nI (n + 2))])), (r, .inl (cB, 16384, .inl (upd (upd f n (((v.toUInt32 >>> ((24 : Int32).toUInt32 &&& Int32.toUInt32 31)).toInt32).toInt8.toInt32)) (n + 1) (((v.toUInt32 >>> ((16 : Int32).toUInt32 &&& Int32.toUInt32 31)).toInt32).toInt8.toInt32))))] := hD
          refine lv_iinc (v := 8) (lv' := [(2, .int 8), (0, .ref a), (1, .int v)]) hx hb d_BY_addFour_42 hl (k := 0) rfl (by decide) (by decide) rfl (fun ls hl => ?_)
          refine lv_goto (tgt := 3) hx hb d_BY_addFour_45 (by decide) ?_
          refine lv_iload_n hx hb d_BY_addFour_3 rfl (lv_at hl 0 rfl) ?_
          refine lv_if_lt (tgt := 48) hx hb d_BY_addFour_4 (by decide) (fun c_4 => ?_) (fun c_4 => ?_)
          · exact absurd c_4 (by decide)
          · skip
            refine lv_aload_n hx hb d_BY_addFour_7 rfl (lv_at hl 1 rfl) ?_
            refine va_get (D := D) (ci := 1) (v := .int (nI (n + 2))) (C := R_BY) (T := F_BY) (N := 2) hx hb htT i_BY hown hK hP 0 rfl rfl 1 (by decide) (htT _ k_38) (fun _ h9 => h9) rfl d_BY_addFour_8 ?_
            refine lv_aload_n hx hb d_BY_addFour_11 rfl (lv_at hl 1 rfl) ?_
            refine va_get (D := D) (ci := 1) (v := .ref r) (C := R_BY) (T := F_BY) (N := 2) hx hb htT i_BY hown hK hP 0 rfl rfl 0 (by decide) (htT _ k_37) (fun _ h9 => h9) rfl d_BY_addFour_12 ?_
            refine va_alen (D := D) (v := nI 16384) hx hb hK hP 1 1 rfl rfl rfl d_BY_addFour_15 ?_
            refine lv_icmp_ge (tgt := 42) hx hb d_BY_addFour_16 (by decide) (fun c_16 => ?_) (fun c_16 => ?_)
            · have c_16 : 16384 ≤ (n + 2) := (nI_leI (a := 16384) (b := (n + 2)) (by omega) (by omega)).mp c_16
              exact absurd c_16 (by omega)
            · have c_16 : ¬ 16384 ≤ (n + 2) := fun z9 => c_16 ((nI_leI (a := 16384) (b := (n + 2)) (by omega) (by omega)).mpr z9)
              have c_16 := Nat.not_le.mp c_16
              refine lv_aload_n hx hb d_BY_addFour_19 rfl (lv_at hl 1 rfl) ?_
              refine va_get (D := D) (ci := 1) (v := .ref r) (C := R_BY) (T := F_BY) (N := 2) hx hb htT i_BY hown hK hP 0 rfl rfl 0 (by decide) (htT _ k_37) (fun _ h9 => h9) rfl d_BY_addFour_20 ?_
              refine lv_aload_n hx hb d_BY_addFour_23 rfl (lv_at hl 1 rfl) ?_
              refine va_get (D := D) (ci := 1) (v := .int (nI (n + 2))) (C := R_BY) (T := F_BY) (N := 2) hx hb htT i_BY hown hK hP 0 rfl rfl 1 (by decide) (htT _ k_38) (fun _ h9 => h9) rfl d_BY_addFour_24 ?_
              refine lv_iload_n hx hb d_BY_addFour_27 rfl (lv_at hl 2 rfl) ?_
              refine lv_iload_n hx hb d_BY_addFour_28 rfl (lv_at hl 0 rfl) ?_
              refine lv_iushr (v := (v.toUInt32 >>> ((8 : Int32).toUInt32 &&& Int32.toUInt32 31)).toInt32) hx hb d_BY_addFour_29 rfl ?_
              refine lv_i2b (v := ((v.toUInt32 >>> ((8 : Int32).toUInt32 &&& Int32.toUInt32 31)).toInt32).toInt8.toInt32) hx hb d_BY_addFour_30 rfl ?_
              refine va_bast (D := D) hx hb hK hP hD hS 1 1 rfl rfl (vp_in_nI (by omega) (by omega)) d_BY_addFour_31 (fun H locs hP hD hS => ?_)
              rw [nI_clamp (show n + 2 < 2 ^ 31 by omega), pk_vb] at hP hD
              have hP : va_P D vwCl [(a, .inr (1, [.ref r, .int (nI (n + 2))])), (r, .inl (cB, 16384, .inl (upd (upd (upd f n (((v.toUInt32 >>> ((24 : Int32).toUInt32 &&& Int32.toUInt32 31)).toInt32).toInt8.toInt32)) (n + 1) (((v.toUInt32 >>> ((16 : Int32).toUInt32 &&& Int32.toUInt32 31)).toInt32).toInt8.toInt32)) (n + 2) (((v.toUInt32 >>> ((8 : Int32).toUInt32 &&& Int32.toUInt32 31)).toInt32).toInt8.toInt32))))] H := hP
              have hD : va_D A [(a, .inr (1, [.ref r, .int (nI (n + 2))])), (r, .inl (cB, 16384, .inl (upd (upd (upd f n (((v.toUInt32 >>> ((24 : Int32).toUInt32 &&& Int32.toUInt32 31)).toInt32).toInt8.toInt32)) (n + 1) (((v.toUInt32 >>> ((16 : Int32).toUInt32 &&& Int32.toUInt32 31)).toInt32).toInt8.toInt32)) (n + 2) (((v.toUInt32 >>> ((8 : Int32).toUInt32 &&& Int32.toUInt32 31)).toInt32).toInt8.toInt32))))] := hD
              refine lv_aload_n hx hb d_BY_addFour_32 rfl (lv_at hl 1 rfl) ?_
              refine lv_dup hx hb d_BY_addFour_33 rfl ?_
              refine va_get (D := D) (ci := 1) (v := .int (nI (n + 2))) (C := R_BY) (T := F_BY) (N := 2) hx hb htT i_BY hown hK hP 0 rfl rfl 1 (by decide) (htT _ k_38) (fun _ h9 => h9) rfl d_BY_addFour_34 ?_
              refine lv_iconst (v := 1) hx hb d_BY_addFour_37 (by decide) ?_
              refine lv_iadd hx hb d_BY_addFour_38 ?_
              refine tt_ti (show (nI (n + 2)) + 1 = nI (n + 3) from nI_add (n + 2) 1) ?_
              refine va_put (D := D) (ci := 1) (v := .int (nI (n + 3))) (ty := .int) (C := R_BY) (T := F_BY) (N := 2) hx hb htT i_BY t_BY t_BY_ok n_BY hown hK hP hD hS 0 rfl rfl 1 (by decide) (htT _ k_38) (fun _ h9 => h9) rfl (by decide +kernel) rfl rfl (Nat.le_of_ble_eq_true rfl) d_BY_addFour_39 (fun H locs hP hD hS => ?_)
              have hP : va_P D vwCl [(a, .inr (1, [.ref r, .int (nI (n + 3))])), (r, .inl (cB, 16384, .inl (upd (upd (upd f n (((v.toUInt32 >>> ((24 : Int32).toUInt32 &&& Int32.toUInt32 31)).toInt32).toInt8.toInt32)) (n + 1) (((v.toUInt32 >>> ((16 : Int32).toUInt32 &&& Int32.toUInt32 31)).toInt32).toInt8.toInt32)) (n + 2) (((v.toUInt32 >>> ((8 : Int32).toUInt32 &&& Int32.toUInt32 31)).toInt32).toInt8.toInt32))))] H := hP
              have hD : va_D A [(a, .inr (1, [.ref r, .int (nI (n + 3))])), (r, .inl (cB, 16384, .inl (upd (upd (upd f n (((v.toUInt32 >>> ((24 : Int32).toUInt32 &&& Int32.toUInt32 31)).toInt32).toInt8.toInt32)) (n + 1) (((v.toUInt32 >>> ((16 : Int32).toUInt32 &&& Int32.toUInt32 31)).toInt32).toInt8.toInt32)) (n + 2) (((v.toUInt32 >>> ((8 : Int32).toUInt32 &&& Int32.toUInt32 31)).toInt32).toInt8.toInt32))))] := hD
              refine lv_iinc (v := 0) (lv' := [(2, .int 0), (0, .ref a), (1, .int v)]) hx hb d_BY_addFour_42 hl (k := 0) rfl (by decide) (by decide) rfl (fun ls hl => ?_)
              refine lv_goto (tgt := 3) hx hb d_BY_addFour_45 (by decide) ?_
              refine lv_iload_n hx hb d_BY_addFour_3 rfl (lv_at hl 0 rfl) ?_
              refine lv_if_lt (tgt := 48) hx hb d_BY_addFour_4 (by decide) (fun c_4 => ?_) (fun c_4 => ?_)
              · exact absurd c_4 (by decide)
              · skip
                refine lv_aload_n hx hb d_BY_addFour_7 rfl (lv_at hl 1 rfl) ?_
                refine va_get (D := D) (ci := 1) (v := .int (nI (n + 3))) (C := R_BY) (T := F_BY) (N := 2) hx hb htT i_BY hown hK hP 0 rfl rfl 1 (by decide) (htT _ k_38) (fun _ h9 => h9) rfl d_BY_addFour_8 ?_
                refine lv_aload_n hx hb d_BY_addFour_11 rfl (lv_at hl 1 rfl) ?_
                refine va_get (D := D) (ci := 1) (v := .ref r) (C := R_BY) (T := F_BY) (N := 2) hx hb htT i_BY hown hK hP 0 rfl rfl 0 (by decide) (htT _ k_37) (fun _ h9 => h9) rfl d_BY_addFour_12 ?_
                refine va_alen (D := D) (v := nI 16384) hx hb hK hP 1 1 rfl rfl rfl d_BY_addFour_15 ?_
                refine lv_icmp_ge (tgt := 42) hx hb d_BY_addFour_16 (by decide) (fun c_16 => ?_) (fun c_16 => ?_)
                · have c_16 : 16384 ≤ (n + 3) := (nI_leI (a := 16384) (b := (n + 3)) (by omega) (by omega)).mp c_16
                  exact absurd c_16 (by omega)
                · have c_16 : ¬ 16384 ≤ (n + 3) := fun z9 => c_16 ((nI_leI (a := 16384) (b := (n + 3)) (by omega) (by omega)).mpr z9)
                  have c_16 := Nat.not_le.mp c_16
                  refine lv_aload_n hx hb d_BY_addFour_19 rfl (lv_at hl 1 rfl) ?_
                  refine va_get (D := D) (ci := 1) (v := .ref r) (C := R_BY) (T := F_BY) (N := 2) hx hb htT i_BY hown hK hP 0 rfl rfl 0 (by decide) (htT _ k_37) (fun _ h9 => h9) rfl d_BY_addFour_20 ?_
                  refine lv_aload_n hx hb d_BY_addFour_23 rfl (lv_at hl 1 rfl) ?_
                  refine va_get (D := D) (ci := 1) (v := .int (nI (n + 3))) (C := R_BY) (T := F_BY) (N := 2) hx hb htT i_BY hown hK hP 0 rfl rfl 1 (by decide) (htT _ k_38) (fun _ h9 => h9) rfl d_BY_addFour_24 ?_
                  refine lv_iload_n hx hb d_BY_addFour_27 rfl (lv_at hl 2 rfl) ?_
                  refine lv_iload_n hx hb d_BY_addFour_28 rfl (lv_at hl 0 rfl) ?_
                  refine lv_iushr (v := (v.toUInt32 >>> ((0 : Int32).toUInt32 &&& Int32.toUInt32 31)).toInt32) hx hb d_BY_addFour_29 rfl ?_
                  refine lv_i2b (v := ((v.toUInt32 >>> ((0 : Int32).toUInt32 &&& Int32.toUInt32 31)).toInt32).toInt8.toInt32) hx hb d_BY_addFour_30 rfl ?_
                  refine va_bast (D := D) hx hb hK hP hD hS 1 1 rfl rfl (vp_in_nI (by omega) (by omega)) d_BY_addFour_31 (fun H locs hP hD hS => ?_)
                  rw [nI_clamp (show n + 3 < 2 ^ 31 by omega), pk_vb] at hP hD
                  have hP : va_P D vwCl [(a, .inr (1, [.ref r, .int (nI (n + 3))])), (r, .inl (cB, 16384, .inl (upd (upd (upd (upd f n (((v.toUInt32 >>> ((24 : Int32).toUInt32 &&& Int32.toUInt32 31)).toInt32).toInt8.toInt32)) (n + 1) (((v.toUInt32 >>> ((16 : Int32).toUInt32 &&& Int32.toUInt32 31)).toInt32).toInt8.toInt32)) (n + 2) (((v.toUInt32 >>> ((8 : Int32).toUInt32 &&& Int32.toUInt32 31)).toInt32).toInt8.toInt32)) (n + 3) (((v.toUInt32 >>> ((0 : Int32).toUInt32 &&& Int32.toUInt32 31)).toInt32).toInt8.toInt32))))] H := hP
                  have hD : va_D A [(a, .inr (1, [.ref r, .int (nI (n + 3))])), (r, .inl (cB, 16384, .inl (upd (upd (upd (upd f n (((v.toUInt32 >>> ((24 : Int32).toUInt32 &&& Int32.toUInt32 31)).toInt32).toInt8.toInt32)) (n + 1) (((v.toUInt32 >>> ((16 : Int32).toUInt32 &&& Int32.toUInt32 31)).toInt32).toInt8.toInt32)) (n + 2) (((v.toUInt32 >>> ((8 : Int32).toUInt32 &&& Int32.toUInt32 31)).toInt32).toInt8.toInt32)) (n + 3) (((v.toUInt32 >>> ((0 : Int32).toUInt32 &&& Int32.toUInt32 31)).toInt32).toInt8.toInt32))))] := hD
                  refine lv_aload_n hx hb d_BY_addFour_32 rfl (lv_at hl 1 rfl) ?_
                  refine lv_dup hx hb d_BY_addFour_33 rfl ?_
                  refine va_get (D := D) (ci := 1) (v := .int (nI (n + 3))) (C := R_BY) (T := F_BY) (N := 2) hx hb htT i_BY hown hK hP 0 rfl rfl 1 (by decide) (htT _ k_38) (fun _ h9 => h9) rfl d_BY_addFour_34 ?_
                  refine lv_iconst (v := 1) hx hb d_BY_addFour_37 (by decide) ?_
                  refine lv_iadd hx hb d_BY_addFour_38 ?_
                  refine tt_ti (show (nI (n + 3)) + 1 = nI (n + 4) from nI_add (n + 3) 1) ?_
                  refine va_put (D := D) (ci := 1) (v := .int (nI (n + 4))) (ty := .int) (C := R_BY) (T := F_BY) (N := 2) hx hb htT i_BY t_BY t_BY_ok n_BY hown hK hP hD hS 0 rfl rfl 1 (by decide) (htT _ k_38) (fun _ h9 => h9) rfl (by decide +kernel) rfl rfl (Nat.le_of_ble_eq_true rfl) d_BY_addFour_39 (fun H locs hP hD hS => ?_)
                  have hP : va_P D vwCl [(a, .inr (1, [.ref r, .int (nI (n + 4))])), (r, .inl (cB, 16384, .inl (upd (upd (upd (upd f n (((v.toUInt32 >>> ((24 : Int32).toUInt32 &&& Int32.toUInt32 31)).toInt32).toInt8.toInt32)) (n + 1) (((v.toUInt32 >>> ((16 : Int32).toUInt32 &&& Int32.toUInt32 31)).toInt32).toInt8.toInt32)) (n + 2) (((v.toUInt32 >>> ((8 : Int32).toUInt32 &&& Int32.toUInt32 31)).toInt32).toInt8.toInt32)) (n + 3) (((v.toUInt32 >>> ((0 : Int32).toUInt32 &&& Int32.toUInt32 31)).toInt32).toInt8.toInt32))))] H := hP
                  have hD : va_D A [(a, .inr (1, [.ref r, .int (nI (n + 4))])), (r, .inl (cB, 16384, .inl (upd (upd (upd (upd f n (((v.toUInt32 >>> ((24 : Int32).toUInt32 &&& Int32.toUInt32 31)).toInt32).toInt8.toInt32)) (n + 1) (((v.toUInt32 >>> ((16 : Int32).toUInt32 &&& Int32.toUInt32 31)).toInt32).toInt8.toInt32)) (n + 2) (((v.toUInt32 >>> ((8 : Int32).toUInt32 &&& Int32.toUInt32 31)).toInt32).toInt8.toInt32)) (n + 3) (((v.toUInt32 >>> ((0 : Int32).toUInt32 &&& Int32.toUInt32 31)).toInt32).toInt8.toInt32))))] := hD
                  refine lv_iinc (v := (-8)) (lv' := [(2, .int (-8)), (0, .ref a), (1, .int v)]) hx hb d_BY_addFour_42 hl (k := 0) rfl (by decide) (by decide) rfl (fun ls hl => ?_)
                  refine lv_goto (tgt := 3) hx hb d_BY_addFour_45 (by decide) ?_
                  refine lv_iload_n hx hb d_BY_addFour_3 rfl (lv_at hl 0 rfl) ?_
                  refine lv_if_lt (tgt := 48) hx hb d_BY_addFour_4 (by decide) (fun c_4 => ?_) (fun c_4 => ?_)
                  · skip
                    have o_f2 : (tt_f4 f n v) = (upd (upd (upd (upd f n (((v.toUInt32 >>> ((24 : Int32).toUInt32 &&& Int32.toUInt32 31)).toInt32).toInt8.toInt32)) (n + 1) (((v.toUInt32 >>> ((16 : Int32).toUInt32 &&& Int32.toUInt32 31)).toInt32).toInt8.toInt32)) (n + 2) (((v.toUInt32 >>> ((8 : Int32).toUInt32 &&& Int32.toUInt32 31)).toInt32).toInt8.toInt32)) (n + 3) (((v.toUInt32 >>> ((0 : Int32).toUInt32 &&& Int32.toUInt32 31)).toInt32).toInt8.toInt32)) := by rfl
                    have hP9 : va_P D vwCl [(a, .inr (1, [.ref r, .int (nI (n + 4))])), (r, .inl (cB, 16384, .inl (upd (upd (upd (upd f n (((v.toUInt32 >>> ((24 : Int32).toUInt32 &&& Int32.toUInt32 31)).toInt32).toInt8.toInt32)) (n + 1) (((v.toUInt32 >>> ((16 : Int32).toUInt32 &&& Int32.toUInt32 31)).toInt32).toInt8.toInt32)) (n + 2) (((v.toUInt32 >>> ((8 : Int32).toUInt32 &&& Int32.toUInt32 31)).toInt32).toInt8.toInt32)) (n + 3) (((v.toUInt32 >>> ((0 : Int32).toUInt32 &&& Int32.toUInt32 31)).toInt32).toInt8.toInt32))))] H := hP.sub [0, 1] rfl
                    have hD9 : va_D A [(a, .inr (1, [.ref r, .int (nI (n + 4))])), (r, .inl (cB, 16384, .inl (upd (upd (upd (upd f n (((v.toUInt32 >>> ((24 : Int32).toUInt32 &&& Int32.toUInt32 31)).toInt32).toInt8.toInt32)) (n + 1) (((v.toUInt32 >>> ((16 : Int32).toUInt32 &&& Int32.toUInt32 31)).toInt32).toInt8.toInt32)) (n + 2) (((v.toUInt32 >>> ((8 : Int32).toUInt32 &&& Int32.toUInt32 31)).toInt32).toInt8.toInt32)) (n + 3) (((v.toUInt32 >>> ((0 : Int32).toUInt32 &&& Int32.toUInt32 31)).toInt32).toInt8.toInt32))))] := hD.sub [0, 1] (by decide) rfl
                    have hP9 : va_P D vwCl [(a, .inr (1, [.ref r, .int (nI (n + 4))])), (r, .inl (cB, 16384, .inl (tt_f4 f n v)))] H := by rw [o_f2]; exact hP9
                    have hD9 : va_D A [(a, .inr (1, [.ref r, .int (nI (n + 4))])), (r, .inl (cB, 16384, .inl (tt_f4 f n v)))] := by rw [o_f2]; exact hD9
                    exact W.vret hx hb hr (fun t ht hW => ⟨⟨(), rfl, trivial, by rw [ht]; exact hP9, hD9⟩, hS.F ht⟩) hS.2.2 d_BY_addFour_48
                  · exact absurd c_4 (by decide)
abbrev rm_BY_replace : Room := { frames := 1, cells := 0, slots := 0, locals := 21 }
abbrev q_BY_replace (D : va_G) (cI cB cL : ClassId) (a r : Nat) (f : Nat → Int32) (n : Nat) (x b : Int32) (A : Nat → Prop) : Array Value → State → Outcome → State → Prop := va_Qi (fun r9 _ => r9 = (tt_rpA f n x b)) (fun (_ : Unit) t => va_P D vwCl [(a, .inr (1, [.ref r, .int (nI n)])), (r, .inl (cB, 16384, .inl (tt_rpF f n x b)))] t.heap ∧ va_D A [(a, .inr (1, [.ref r, .int (nI n)])), (r, .inl (cB, 16384, .inl (tt_rpF f n x b)))]) A
set_option maxHeartbeats 4000000 in
set_option maxRecDepth 100000 in
theorem c_BY_replace (l : Launch) (D : va_G) (cI cB cL : ClassId) (a r : Nat) (f : Nat → Int32) (n : Nat) (x b : Int32) (hn : n ≤ 16384) (sz : Nat) : Met l y_BY_replace w_BY_replace rm_BY_replace (va_Pc [.ref a, .int x, .int b] (fun U => U.heap.size = sz ∧ va_P D vwCl [(a, .inr (1, [.ref r, .int (nI n)])), (r, .inl (cB, 16384, .inl f))] U.heap ∧ va_K D vwCl (tt_ty cI cB cL) U ∧ va_D (fun _ => True) [(a, .inr (1, [.ref r, .int (nI n)])), (r, .inl (cB, 16384, .inl f))])) (q_BY_replace D cI cB cL a r f n x b (va_A [(a, .inr (1, [.ref r, .int (nI n)])), (r, .inl (cB, 16384, .inl f))] sz)) 0 0 (va_A [(a, .inr (1, [.ref r, .int (nI n)])), (r, .inl (cB, 16384, .inl f))] sz) := by
  refine Met.ofW (cc := b_BY_replace) (maxL := 4) (ret := (some .int)) (by decide) rfl ?_
  intro p e s m args below meth c s₁ B hml hv
  obtain ⟨rfl, hsz, hP, hK, hD0⟩ := hv
  have hx := B.exec
  have hb := B.bytes
  have hr := B.returns
  have hts := atoms_spec (ws := w_BY_replace) B.pre
  have htT : ∀ w ∈ tt_T, w.before _ s = true := fun w h => hts w (List.mem_cons_of_mem _ h)
  have hown : s.vm.findClass R_BY = some m.cls := findClass_of_methodNamed B.named
  have hlocks := B.notSynchronized
  subst hsz
  have hD := hD0.self (sz := s.heap.size)
  generalize hAe : va_A [(a, .inr (1, [.ref r, .int (nI n)])), (r, .inl (cB, 16384, .inl f))] s.heap.size = A at hD ⊢
  have hA : ∀ q : Nat, s.heap.size ≤ q → A q := fun q h => by rw [← hAe]; exact Or.inr h
  have hS : va_S A s.heap s.heap [] := va_S.rf
  have hl := lv_entry ([.ref a, .int x, .int b]) (n := 4) (Nat.le_of_ble_eq_true rfl)
  rw [lg_entry_eq]
  generalize (lg_sl ([.ref a, .int x, .int b]) ++ List.replicate (4 - (lg_sl ([.ref a, .int x, .int b])).length) Slot.unset).toArray = ls at hl ⊢
  have hl : lv_has ls 4 [(0, .ref a), (1, .int x), (2, .int b)] := hl
  have hP : va_P D vwCl [(a, .inr (1, [.ref r, .int (nI n)])), (r, .inl (cB, 16384, .inl f))] s.heap := hP
  refine lv_iload_n hx hb d_BY_replace_0 rfl (lv_at hl 1 rfl) ?_
  refine lv_if_lt (tgt := 23) hx hb d_BY_replace_1 (by decide) (fun c_1 => ?_) (fun c_1 => ?_)
  · skip
    refine lv_iconst (v := (-1)) hx hb d_BY_replace_23 (by decide) ?_
    have o_r : ((-1) : Int32) = (tt_rpA f n x b) := by simp [tt_rpA, tt_chr, c_1]
    have o_f2 : (tt_rpF f n x b) = f := by simp [tt_rpF, c_1]
    have hP9 : va_P D vwCl [(a, .inr (1, [.ref r, .int (nI n)])), (r, .inl (cB, 16384, .inl f))] s.heap := hP.sub [0, 1] rfl
    have hD9 : va_D A [(a, .inr (1, [.ref r, .int (nI n)])), (r, .inl (cB, 16384, .inl f))] := hD.sub [0, 1] (by decide) rfl
    have hP9 : va_P D vwCl [(a, .inr (1, [.ref r, .int (nI n)])), (r, .inl (cB, 16384, .inl (tt_rpF f n x b)))] s.heap := by rw [o_f2]; exact hP9
    have hD9 : va_D A [(a, .inr (1, [.ref r, .int (nI n)])), (r, .inl (cB, 16384, .inl (tt_rpF f n x b)))] := by rw [o_f2]; exact hD9
    exact W.iret (v := (-1)) hx hb hr (fun t ht hW => ⟨⟨_, (), rfl, o_r, by rw [ht]; exact hP9, hD9⟩, hS.F ht⟩) hS.2.2 d_BY_replace_24
  · skip
    refine lv_iload_n hx hb d_BY_replace_4 rfl (lv_at hl 1 rfl) ?_
    refine lv_aload_n hx hb d_BY_replace_5 rfl (lv_at hl 0 rfl) ?_
    refine va_get (D := D) (ci := 1) (v := .int (nI n)) (C := R_BY) (T := F_BY) (N := 2) hx hb htT i_BY hown hK hP 0 rfl rfl 1 (by decide) (htT _ k_38) (fun _ h9 => h9) rfl d_BY_replace_6 ?_
    refine lv_icmp_ge (tgt := 23) hx hb d_BY_replace_9 (by decide) (fun c_9 => ?_) (fun c_9 => ?_)
    · skip
      refine lv_iconst (v := (-1)) hx hb d_BY_replace_23 (by decide) ?_
      have o_r : ((-1) : Int32) = (tt_rpA f n x b) := by simp [tt_rpA, tt_chr, c_1, c_9]
      have o_f2 : (tt_rpF f n x b) = f := by simp [tt_rpF, c_1, c_9]
      have hP9 : va_P D vwCl [(a, .inr (1, [.ref r, .int (nI n)])), (r, .inl (cB, 16384, .inl f))] s.heap := hP.sub [0, 1] rfl
      have hD9 : va_D A [(a, .inr (1, [.ref r, .int (nI n)])), (r, .inl (cB, 16384, .inl f))] := hD.sub [0, 1] (by decide) rfl
      have hP9 : va_P D vwCl [(a, .inr (1, [.ref r, .int (nI n)])), (r, .inl (cB, 16384, .inl (tt_rpF f n x b)))] s.heap := by rw [o_f2]; exact hP9
      have hD9 : va_D A [(a, .inr (1, [.ref r, .int (nI n)])), (r, .inl (cB, 16384, .inl (tt_rpF f n x b)))] := by rw [o_f2]; exact hD9
      exact W.iret (v := (-1)) hx hb hr (fun t ht hW => ⟨⟨_, (), rfl, o_r, by rw [ht]; exact hP9, hD9⟩, hS.F ht⟩) hS.2.2 d_BY_replace_24
    · skip
      refine lv_iload_n hx hb d_BY_replace_12 rfl (lv_at hl 2 rfl) ?_
      refine lv_if_lt (tgt := 23) hx hb d_BY_replace_13 (by decide) (fun c_13 => ?_) (fun c_13 => ?_)
      · skip
        refine lv_iconst (v := (-1)) hx hb d_BY_replace_23 (by decide) ?_
        have o_r : ((-1) : Int32) = (tt_rpA f n x b) := by simp [tt_rpA, tt_chr, c_1, c_9, c_13]
        have o_f2 : (tt_rpF f n x b) = f := by simp [tt_rpF, c_1, c_9, c_13]
        have hP9 : va_P D vwCl [(a, .inr (1, [.ref r, .int (nI n)])), (r, .inl (cB, 16384, .inl f))] s.heap := hP.sub [0, 1] rfl
        have hD9 : va_D A [(a, .inr (1, [.ref r, .int (nI n)])), (r, .inl (cB, 16384, .inl f))] := hD.sub [0, 1] (by decide) rfl
        have hP9 : va_P D vwCl [(a, .inr (1, [.ref r, .int (nI n)])), (r, .inl (cB, 16384, .inl (tt_rpF f n x b)))] s.heap := by rw [o_f2]; exact hP9
        have hD9 : va_D A [(a, .inr (1, [.ref r, .int (nI n)])), (r, .inl (cB, 16384, .inl (tt_rpF f n x b)))] := by rw [o_f2]; exact hD9
        exact W.iret (v := (-1)) hx hb hr (fun t ht hW => ⟨⟨_, (), rfl, o_r, by rw [ht]; exact hP9, hD9⟩, hS.F ht⟩) hS.2.2 d_BY_replace_24
      · skip
        refine lv_iload_n hx hb d_BY_replace_16 rfl (lv_at hl 2 rfl) ?_
        refine lv_sipush (v := 255) hx hb d_BY_replace_17 (by decide) ?_
        refine lv_icmp_le (tgt := 25) hx hb d_BY_replace_20 (by decide) (fun c_20 => ?_) (fun c_20 => ?_)
        · skip
          refine lv_aload_n hx hb d_BY_replace_25 rfl (lv_at hl 0 rfl) ?_
          refine lv_iload_n hx hb d_BY_replace_26 rfl (lv_at hl 1 rfl) ?_
          refine tt_roI (va_runV (As := [.int x]) (rest := []) ⟨hx, hb, hml, hown, hts⟩ (c_BY_atr l D cI cB cL a r f n x (by omega)) (cwV 1 hts (tt_gV k_173 k_174 k_175 k_2 k_176) rfl rfl rfl hv_BY_at ⟨Nat.le_of_ble_eq_true rfl, Nat.le_of_ble_eq_true rfl⟩) (tt_ropreV (w := [(a, .inr (1, [.ref r, .int (nI n)])), (r, .inl (cB, 16384, .inl f))]) hK hP [0, 1] rfl (va_recv hK hP (ci := 1) (q0 := 0) rfl rfl)) rfl rfl hl.1 rfl (lv_room (Nat.le_of_ble_eq_true rfl)) d_BY_replace_27 ⟨Nat.zero_le _, Nat.zero_le _⟩) hS hP (fun H locs hP hS => ?_)
          refine lv_istore_n (lv' := [(3, .int (tt_chr f n x)), (0, .ref a), (1, .int x), (2, .int b)]) hx hb d_BY_replace_30 rfl hl (by decide) rfl (fun ls hl => ?_)
          refine lv_aload_n hx hb d_BY_replace_31 rfl (lv_at hl 1 rfl) ?_
          refine va_get (D := D) (ci := 1) (v := .ref r) (C := R_BY) (T := F_BY) (N := 2) hx hb htT i_BY hown hK hP 0 rfl rfl 0 (by decide) (htT _ k_37) (fun _ h9 => h9) rfl d_BY_replace_32 ?_
          refine lv_iload_n hx hb d_BY_replace_35 rfl (lv_at hl 2 rfl) ?_
          refine lv_iload_n hx hb d_BY_replace_36 rfl (lv_at hl 3 rfl) ?_
          refine lv_i2b (v := b.toInt8.toInt32) hx hb d_BY_replace_37 rfl ?_
          refine va_bast (D := D) hx hb hK hP hD hS 1 1 rfl rfl (tt_vin c_1 c_9 hn (by decide)) d_BY_replace_38 (fun H locs hP hD hS => ?_)
          rw [pk_vb] at hP hD
          have hP : va_P D vwCl [(a, .inr (1, [.ref r, .int (nI n)])), (r, .inl (cB, 16384, .inl (upd f x.toNatClampNeg b.toInt8.toInt32)))] H := hP
          have hD : va_D A [(a, .inr (1, [.ref r, .int (nI n)])), (r, .inl (cB, 16384, .inl (upd f x.toNatClampNeg b.toInt8.toInt32)))] := hD
          refine lv_iload_n hx hb d_BY_replace_39 rfl (lv_at hl 0 rfl) ?_
          have o_r : (tt_chr f n x) = (tt_rpA f n x b) := by simp [tt_rpA, tt_chr, c_1, c_9, c_13, c_20]
          have o_f2 : (tt_rpF f n x b) = (upd f x.toNatClampNeg b.toInt8.toInt32) := by simp [tt_rpF, c_1, c_9, c_13, c_20]
          have hP9 : va_P D vwCl [(a, .inr (1, [.ref r, .int (nI n)])), (r, .inl (cB, 16384, .inl (upd f x.toNatClampNeg b.toInt8.toInt32)))] H := hP.sub [0, 1] rfl
          have hD9 : va_D A [(a, .inr (1, [.ref r, .int (nI n)])), (r, .inl (cB, 16384, .inl (upd f x.toNatClampNeg b.toInt8.toInt32)))] := hD.sub [0, 1] (by decide) rfl
          have hP9 : va_P D vwCl [(a, .inr (1, [.ref r, .int (nI n)])), (r, .inl (cB, 16384, .inl (tt_rpF f n x b)))] H := by rw [o_f2]; exact hP9
          have hD9 : va_D A [(a, .inr (1, [.ref r, .int (nI n)])), (r, .inl (cB, 16384, .inl (tt_rpF f n x b)))] := by rw [o_f2]; exact hD9
          exact W.iret (v := tt_chr f n x) hx hb hr (fun t ht hW => ⟨⟨_, (), rfl, o_r, by rw [ht]; exact hP9, hD9⟩, hS.F ht⟩) hS.2.2 d_BY_replace_40
        · skip
          refine lv_iconst (v := (-1)) hx hb d_BY_replace_23 (by decide) ?_
          have o_r : ((-1) : Int32) = (tt_rpA f n x b) := by simp [tt_rpA, tt_chr, c_1, c_9, c_13, c_20]
          have o_f2 : (tt_rpF f n x b) = f := by simp [tt_rpF, c_1, c_9, c_13, c_20]
          have hP9 : va_P D vwCl [(a, .inr (1, [.ref r, .int (nI n)])), (r, .inl (cB, 16384, .inl f))] s.heap := hP.sub [0, 1] rfl
          have hD9 : va_D A [(a, .inr (1, [.ref r, .int (nI n)])), (r, .inl (cB, 16384, .inl f))] := hD.sub [0, 1] (by decide) rfl
          have hP9 : va_P D vwCl [(a, .inr (1, [.ref r, .int (nI n)])), (r, .inl (cB, 16384, .inl (tt_rpF f n x b)))] s.heap := by rw [o_f2]; exact hP9
          have hD9 : va_D A [(a, .inr (1, [.ref r, .int (nI n)])), (r, .inl (cB, 16384, .inl (tt_rpF f n x b)))] := by rw [o_f2]; exact hD9
          exact W.iret (v := (-1)) hx hb hr (fun t ht hW => ⟨⟨_, (), rfl, o_r, by rw [ht]; exact hP9, hD9⟩, hS.F ht⟩) hS.2.2 d_BY_replace_24
abbrev rm_BY_copyFrom : Room := { frames := 1, cells := 0, slots := 0, locals := 60 }
abbrev q_BY_copyFrom (D : va_G) (cI cB cL : ClassId) (a r : Nat) (g : Nat → Int32) (n0 : Nat) (a2 r2 : Nat) (f : Nat → Int32) (n : Nat) (A : Nat → Prop) : Array Value → State → Outcome → State → Prop := va_Qv (fun _ => True) (fun (_ : Unit) t => va_P D vwCl [(a, .inr (1, [.ref r, .int (nI n)])), (r, .inl (cB, 16384, .inl (va_cpy f g 0 0 n))), (a2, .inr (1, [.ref r2, .int (nI n)])), (r2, .inl (cB, 16384, .inl f))] t.heap ∧ va_D A [(a, .inr (1, [.ref r, .int (nI n)])), (r, .inl (cB, 16384, .inl (va_cpy f g 0 0 n))), (a2, .inr (1, [.ref r2, .int (nI n)])), (r2, .inl (cB, 16384, .inl f))]) A
set_option maxHeartbeats 4000000 in
set_option maxRecDepth 100000 in
theorem c_BY_copyFrom (l : Launch) (D : va_G) (cI cB cL : ClassId) (a r : Nat) (g : Nat → Int32) (n0 : Nat) (a2 r2 : Nat) (f : Nat → Int32) (n : Nat) (hn : n ≤ 16384) (hf : ∀ k, (f k).toInt8.toInt32 = f k) (sz : Nat) : Met l y_BY_copyFrom w_BY_copyFrom rm_BY_copyFrom (va_Pc [.ref a, .ref a2] (fun U => U.heap.size = sz ∧ va_P D vwCl [(a, .inr (1, [.ref r, .int (nI n0)])), (r, .inl (cB, 16384, .inl g)), (a2, .inr (1, [.ref r2, .int (nI n)])), (r2, .inl (cB, 16384, .inl f))] U.heap ∧ va_K D vwCl (tt_ty cI cB cL) U ∧ va_D (fun _ => True) [(a, .inr (1, [.ref r, .int (nI n0)])), (r, .inl (cB, 16384, .inl g)), (a2, .inr (1, [.ref r2, .int (nI n)])), (r2, .inl (cB, 16384, .inl f))])) (q_BY_copyFrom D cI cB cL a r g n0 a2 r2 f n (va_A [(a, .inr (1, [.ref r, .int (nI n0)])), (r, .inl (cB, 16384, .inl g)), (a2, .inr (1, [.ref r2, .int (nI n)])), (r2, .inl (cB, 16384, .inl f))] sz)) 0 0 (va_A [(a, .inr (1, [.ref r, .int (nI n0)])), (r, .inl (cB, 16384, .inl g)), (a2, .inr (1, [.ref r2, .int (nI n)])), (r2, .inl (cB, 16384, .inl f))] sz) := by
  refine Met.ofW (cc := b_BY_copyFrom) (maxL := 2) (ret := none) (by decide) rfl ?_
  intro p e s m args below meth c s₁ B hml hv
  obtain ⟨rfl, hsz, hP, hK, hD0⟩ := hv
  have hx := B.exec
  have hb := B.bytes
  have hr := B.returns
  have hts := atoms_spec (ws := w_BY_copyFrom) B.pre
  have htT : ∀ w ∈ tt_T, w.before _ s = true := fun w h => hts w (List.mem_cons_of_mem _ h)
  have hown : s.vm.findClass R_BY = some m.cls := findClass_of_methodNamed B.named
  have hlocks := B.notSynchronized
  subst hsz
  have hD := hD0.self (sz := s.heap.size)
  generalize hAe : va_A [(a, .inr (1, [.ref r, .int (nI n0)])), (r, .inl (cB, 16384, .inl g)), (a2, .inr (1, [.ref r2, .int (nI n)])), (r2, .inl (cB, 16384, .inl f))] s.heap.size = A at hD ⊢
  have hA : ∀ q : Nat, s.heap.size ≤ q → A q := fun q h => by rw [← hAe]; exact Or.inr h
  have hS : va_S A s.heap s.heap [] := va_S.rf
  have hl := lv_entry ([.ref a, .ref a2]) (n := 2) (Nat.le_of_ble_eq_true rfl)
  rw [lg_entry_eq]
  generalize (lg_sl ([.ref a, .ref a2]) ++ List.replicate (2 - (lg_sl ([.ref a, .ref a2])).length) Slot.unset).toArray = ls at hl ⊢
  have hl : lv_has ls 2 [(0, .ref a), (1, .ref a2)] := hl
  have hP : va_P D vwCl [(a, .inr (1, [.ref r, .int (nI n0)])), (r, .inl (cB, 16384, .inl g)), (a2, .inr (1, [.ref r2, .int (nI n)])), (r2, .inl (cB, 16384, .inl f))] s.heap := hP
  refine lv_aload_n hx hb d_BY_copyFrom_0 rfl (lv_at hl 0 rfl) ?_
  refine lv_aload_n hx hb d_BY_copyFrom_1 rfl (lv_at hl 1 rfl) ?_
  refine va_get (D := D) (ci := 1) (v := .int (nI n)) (C := R_BY) (T := F_BY) (N := 2) hx hb htT i_BY hown hK hP 2 rfl rfl 1 (by decide) (htT _ k_38) (fun _ h9 => h9) rfl d_BY_copyFrom_2 ?_
  refine va_put (D := D) (ci := 1) (v := .int (nI n)) (ty := .int) (C := R_BY) (T := F_BY) (N := 2) hx hb htT i_BY t_BY t_BY_ok n_BY hown hK hP hD hS 0 rfl rfl 1 (by decide) (htT _ k_38) (fun _ h9 => h9) rfl (by decide +kernel) rfl rfl (Nat.le_of_ble_eq_true rfl) d_BY_copyFrom_5 (fun H locs hP hD hS => ?_)
  have hP : va_P D vwCl [(a, .inr (1, [.ref r, .int (nI n)])), (r, .inl (cB, 16384, .inl g)), (a2, .inr (1, [.ref r2, .int (nI n)])), (r2, .inl (cB, 16384, .inl f))] H := hP
  have hD : va_D A [(a, .inr (1, [.ref r, .int (nI n)])), (r, .inl (cB, 16384, .inl g)), (a2, .inr (1, [.ref r2, .int (nI n)])), (r2, .inl (cB, 16384, .inl f))] := hD
  refine lv_aload_n hx hb d_BY_copyFrom_8 rfl (lv_at hl 1 rfl) ?_
  refine va_get (D := D) (ci := 1) (v := .ref r2) (C := R_BY) (T := F_BY) (N := 2) hx hb htT i_BY hown hK hP 2 rfl rfl 0 (by decide) (htT _ k_37) (fun _ h9 => h9) rfl d_BY_copyFrom_9 ?_
  refine lv_iconst (v := 0) hx hb d_BY_copyFrom_12 (by decide) ?_
  refine lv_aload_n hx hb d_BY_copyFrom_13 rfl (lv_at hl 0 rfl) ?_
  refine va_get (D := D) (ci := 1) (v := .ref r) (C := R_BY) (T := F_BY) (N := 2) hx hb htT i_BY hown hK hP 0 rfl rfl 0 (by decide) (htT _ k_37) (fun _ h9 => h9) rfl d_BY_copyFrom_14 ?_
  refine lv_iconst (v := 0) hx hb d_BY_copyFrom_17 (by decide) ?_
  refine lv_aload_n hx hb d_BY_copyFrom_18 rfl (lv_at hl 0 rfl) ?_
  refine va_get (D := D) (ci := 1) (v := .int (nI n)) (C := R_BY) (T := F_BY) (N := 2) hx hb htT i_BY hown hK hP 0 rfl rfl 1 (by decide) (htT _ k_38) (fun _ h9 => h9) rfl d_BY_copyFrom_19 ?_
  refine va_copyi (D := D) hx hb (by rw [hml]; exact hl.1.symm) hown (htT _ k_189) (htT _ k_191) (htT _ k_190) (htT _ k_13) hK hP hD hS 3 1 1 1 rfl rfl rfl rfl rfl (by decide) (by decide) (nI_pos (by omega)) (by rw [nI_clamp (by omega)]; show 0 + n ≤ 16384; omega) (by rw [nI_clamp (by omega)]; show 0 + n ≤ 16384; omega) (fun k _ => by rw [← hf]; exact pk_fb _) (Nat.le_of_ble_eq_true rfl) (Nat.le_of_ble_eq_true rfl) d_BY_copyFrom_22 (fun H locs hP hD hS => ?_)
  have hP : va_P D vwCl [(a, .inr (1, [.ref r, .int (nI n)])), (r, .inl (cB, 16384, .inl (va_cpy f g (0 : Int32).toNatClampNeg (0 : Int32).toNatClampNeg (nI n).toNatClampNeg))), (a2, .inr (1, [.ref r2, .int (nI n)])), (r2, .inl (cB, 16384, .inl f))] H := hP
  have hD : va_D A [(a, .inr (1, [.ref r, .int (nI n)])), (r, .inl (cB, 16384, .inl (va_cpy f g (0 : Int32).toNatClampNeg (0 : Int32).toNatClampNeg (nI n).toNatClampNeg))), (a2, .inr (1, [.ref r2, .int (nI n)])), (r2, .inl (cB, 16384, .inl f))] := hD
  rw [nI_clamp (show n < 2 ^ 31 by omega)] at hP hD
  have hP : va_P D vwCl [(a, .inr (1, [.ref r, .int (nI n)])), (r, .inl (cB, 16384, .inl (va_cpy f g 0 0 n))), (a2, .inr (1, [.ref r2, .int (nI n)])), (r2, .inl (cB, 16384, .inl f))] H := hP
  have hD : va_D A [(a, .inr (1, [.ref r, .int (nI n)])), (r, .inl (cB, 16384, .inl (va_cpy f g 0 0 n))), (a2, .inr (1, [.ref r2, .int (nI n)])), (r2, .inl (cB, 16384, .inl f))] := hD
  have hP9 : va_P D vwCl [(a, .inr (1, [.ref r, .int (nI n)])), (r, .inl (cB, 16384, .inl (va_cpy f g 0 0 n))), (a2, .inr (1, [.ref r2, .int (nI n)])), (r2, .inl (cB, 16384, .inl f))] H := hP.sub [0, 1, 2, 3] rfl
  have hD9 : va_D A [(a, .inr (1, [.ref r, .int (nI n)])), (r, .inl (cB, 16384, .inl (va_cpy f g 0 0 n))), (a2, .inr (1, [.ref r2, .int (nI n)])), (r2, .inl (cB, 16384, .inl f))] := hD.sub [0, 1, 2, 3] (by decide) rfl
  exact W.vret hx hb hr (fun t ht hW => ⟨⟨(), rfl, trivial, by rw [ht]; exact hP9, hD9⟩, hS.F ht⟩) hS.2.2 d_BY_copyFrom_25
abbrev rm_DE_firstDigit : Room := { frames := 1, cells := 0, slots := 0, locals := 21 }
abbrev q_DE_firstDigit (D : va_G) (cI cB cL : ClassId) (a r : Nat) (f : Nat → Int32) (n : Nat) (x y : Nat) : Array Value → State → Outcome → State → Prop := va_Qi (fun r9 (_ : Unit) => r9 = (nI (tt_fd f n x y))) (fun _ _ => True) (fun _ => False)
set_option maxHeartbeats 4000000 in
set_option maxRecDepth 100000 in
theorem c_DE_firstDigit (l : Launch) (D : va_G) (cI cB cL : ClassId) (a r : Nat) (f : Nat → Int32) (n : Nat) (x y : Nat) (hn : n ≤ 16384) (hx : x < 1073741824) (hy : y < 1073741824) : Met l y_DE_firstDigit w_DE_firstDigit rm_DE_firstDigit (va_Pc [.ref a, .int (nI x), .int (nI y)] (fun U => va_P D vwCl [(a, .inr (1, [.ref r, .int (nI n)])), (r, .inl (cB, 16384, .inl f))] U.heap ∧ va_K D vwCl (tt_ty cI cB cL) U)) (q_DE_firstDigit D cI cB cL a r f n x y) 0 0 (fun _ => False) := by
  refine Met.ofW (cc := b_DE_firstDigit) (maxL := 4) (ret := (some .int)) (by decide) rfl ?_
  intro p e s m args below meth c s₁ B hml hv
  obtain ⟨rfl, hP, hK⟩ := hv
  have hx := B.exec
  have hb := B.bytes
  have hr := B.returns
  have hts := atoms_spec (ws := w_DE_firstDigit) B.pre
  have htT : ∀ w ∈ tt_T, w.before _ s = true := fun w h => hts w (List.mem_cons_of_mem _ h)
  have hown : s.vm.findClass R_DE = some m.cls := findClass_of_methodNamed B.named
  have hlocks := B.notSynchronized
  have hS : va_S (fun _ => False) s.heap s.heap [] := va_S.rf
  have hl := lv_entry ([.ref a, .int (nI x), .int (nI y)]) (n := 4) (Nat.le_of_ble_eq_true rfl)
  rw [lg_entry_eq]
  generalize (lg_sl ([.ref a, .int (nI x), .int (nI y)]) ++ List.replicate (4 - (lg_sl ([.ref a, .int (nI x), .int (nI y)])).length) Slot.unset).toArray = ls at hl ⊢
  have hl : lv_has ls 4 [(0, .ref a), (1, .int (nI x)), (2, .int (nI y))] := hl
  have hP : va_P D vwCl [(a, .inr (1, [.ref r, .int (nI n)])), (r, .inl (cB, 16384, .inl f))] s.heap := hP
  refine lv_aload_n hx hb d_DE_firstDigit_0 rfl (lv_at hl 0 rfl) ?_
  refine lv_iload_n hx hb d_DE_firstDigit_1 rfl (lv_at hl 1 rfl) ?_
  refine tt_roI (va_runV (As := [.int (nI x)]) (rest := []) ⟨hx, hb, hml, hown, hts⟩ (c_BY_at l D cI cB cL a r f n x (by omega) (by omega)) (cwV 1 hts (tt_gV k_283 k_174 k_175 k_2 k_176) rfl rfl rfl hv_BY_at ⟨Nat.le_of_ble_eq_true rfl, Nat.le_of_ble_eq_true rfl⟩) (tt_ropreV (w := [(a, .inr (1, [.ref r, .int (nI n)])), (r, .inl (cB, 16384, .inl f))]) hK hP [0, 1] rfl (va_recv hK hP (ci := 1) (q0 := 0) rfl rfl)) rfl rfl hl.1 rfl (lv_room (Nat.le_of_ble_eq_true rfl)) d_DE_firstDigit_2 ⟨Nat.zero_le _, Nat.zero_le _⟩) hS hP (fun H locs hP hS => ?_)
  refine lv_bipush (v := 45) hx hb d_DE_firstDigit_5 (by decide) ?_
  refine lv_icmp_ne (tgt := 16) hx hb d_DE_firstDigit_7 (by decide) (fun c_7 => ?_) (fun c_7 => ?_)
  · skip
    refine lv_iload_n hx hb d_DE_firstDigit_16 rfl (lv_at hl 1 rfl) ?_
    refine lv_istore_n (lv' := [(3, .int (nI x)), (0, .ref a), (1, .int (nI x)), (2, .int (nI y))]) hx hb d_DE_firstDigit_17 rfl hl (by decide) rfl (fun ls hl => ?_)
    have cut_18 : ∀ (k9 : Nat) (j : Nat) (_ : y - j < k9) (hj : j ≤ max y (x + 1)) (he : tt_sw (fun j => decide (tt_ch f n j = 48)) y j = tt_fd f n x y) (H : Heap) (locs : List Loc), va_P D vwCl [(a, .inr (1, [.ref r, .int (nI n)])), (r, .inl (cB, 16384, .inl f))] H → va_S (fun _ => False) s.heap H locs → ∀ ls : Array Slot, lv_has ls 4 [(0, .ref a), (2, .int (nI y)), (3, .int (nI j))] → W p l e (headSpec w_DE_firstDigit rm_DE_firstDigit).room s m ([.ref a, .int (nI x), .int (nI y)] : List Value).toArray below meth c H locs 0 0 (MQ below (q_DE_firstDigit D cI cB cL a r f n x y) ([.ref a, .int (nI x), .int (nI y)] : List Value).toArray s 0 0 (fun _ => False)) (F0 m 18 ls []) := by
      intro k9
      induction k9 with
      | zero => intro j h9; exact absurd h9 (Nat.not_lt_zero _)
      | succ k9 ih_18 =>
        intro j h9 hj he H locs hP hS ls hl
        refine lv_iload_n hx hb d_DE_firstDigit_18 rfl (lv_at hl 2 rfl) ?_
        refine lv_iload_n hx hb d_DE_firstDigit_19 rfl (lv_at hl 1 rfl) ?_
        refine lv_icmp_ge (tgt := 39) hx hb d_DE_firstDigit_20 (by decide) (fun c_20 => ?_) (fun c_20 => ?_)
        · have c_20 : y ≤ j := (nI_leI (a := y) (b := j) (by omega) (by omega)).mp c_20
          refine lv_iload_n hx hb d_DE_firstDigit_39 rfl (lv_at hl 2 rfl) ?_
          have o_r : (nI j) = (nI (tt_fd f n x y)) := by rw [← he, tt_sw_out (fun z => by first | omega | simp_all)]
          exact W.iret (v := nI j) hx hb hr (fun t ht hW => ⟨⟨_, (), rfl, o_r, trivial⟩, hS.F ht⟩) hS.2.2 d_DE_firstDigit_40
        · have c_20 : ¬ y ≤ j := fun z9 => c_20 ((nI_leI (a := y) (b := j) (by omega) (by omega)).mpr z9)
          have c_20 := Nat.not_le.mp c_20
          refine lv_aload_n hx hb d_DE_firstDigit_23 rfl (lv_at hl 0 rfl) ?_
          refine lv_iload_n hx hb d_DE_firstDigit_24 rfl (lv_at hl 2 rfl) ?_
          refine tt_roI (va_runV (As := [.int (nI j)]) (rest := []) ⟨hx, hb, hml, hown, hts⟩ (c_BY_at l D cI cB cL a r f n j (by omega) (by omega)) (cwV 1 hts (tt_gV k_283 k_174 k_175 k_2 k_176) rfl rfl rfl hv_BY_at ⟨Nat.le_of_ble_eq_true rfl, Nat.le_of_ble_eq_true rfl⟩) (tt_ropreV (w := [(a, .inr (1, [.ref r, .int (nI n)])), (r, .inl (cB, 16384, .inl f))]) hK hP [0, 1] rfl (va_recv hK hP (ci := 1) (q0 := 0) rfl rfl)) rfl rfl hl.1 rfl (lv_room (Nat.le_of_ble_eq_true rfl)) d_DE_firstDigit_25 ⟨Nat.zero_le _, Nat.zero_le _⟩) hS hP (fun H locs hP hS => ?_)
          refine lv_bipush (v := 48) hx hb d_DE_firstDigit_28 (by decide) ?_
          refine lv_icmp_ne (tgt := 39) hx hb d_DE_firstDigit_30 (by decide) (fun c_30 => ?_) (fun c_30 => ?_)
          · skip
            refine lv_iload_n hx hb d_DE_firstDigit_39 rfl (lv_at hl 2 rfl) ?_
            have o_r : (nI j) = (nI (tt_fd f n x y)) := by rw [← he, tt_sw_out (fun z => by first | omega | simp_all)]
            exact W.iret (v := nI j) hx hb hr (fun t ht hW => ⟨⟨_, (), rfl, o_r, trivial⟩, hS.F ht⟩) hS.2.2 d_DE_firstDigit_40
          · skip
            refine lv_iinc (v := nI (j + 1)) (lv' := [(3, .int (nI (j + 1))), (0, .ref a), (2, .int (nI y))]) hx hb d_DE_firstDigit_33 hl (k := 2) rfl (nI_add j 1) (by decide) rfl (fun ls hl => ?_)
            refine lv_goto (tgt := 18) hx hb d_DE_firstDigit_36 (by decide) ?_
            exact ih_18 (j + 1) (by omega) (by omega) (by rw [tt_sw_in (by omega) (by simp [c_30])]; exact he) _ _ (hP.sub (ws' := [(a, .inr (1, [.ref r, .int (nI n)])), (r, .inl (cB, 16384, .inl f))]) [0, 1] rfl) hS ls (lv_sub hl [1, 2, 0] rfl)
    exact cut_18 _ x (Nat.lt_succ_self _) (by omega) (by simp [tt_fd, c_7]) _ _ (hP.sub (ws' := [(a, .inr (1, [.ref r, .int (nI n)])), (r, .inl (cB, 16384, .inl f))]) [0, 1] rfl) hS ls (lv_sub hl [1, 3, 0] rfl)
  · skip
    refine lv_iload_n hx hb d_DE_firstDigit_10 rfl (lv_at hl 1 rfl) ?_
    refine lv_iconst (v := 1) hx hb d_DE_firstDigit_11 (by decide) ?_
    refine lv_iadd hx hb d_DE_firstDigit_12 ?_
    refine tt_ti (show (nI x) + 1 = nI (x + 1) from nI_add x 1) ?_
    refine lv_goto (tgt := 17) hx hb d_DE_firstDigit_13 (by decide) ?_
    refine lv_istore_n (lv' := [(3, .int (nI (x + 1))), (0, .ref a), (1, .int (nI x)), (2, .int (nI y))]) hx hb d_DE_firstDigit_17 rfl hl (by decide) rfl (fun ls hl => ?_)
    have cut_18 : ∀ (k9 : Nat) (j : Nat) (_ : y - j < k9) (hj : j ≤ max y (x + 1)) (he : tt_sw (fun j => decide (tt_ch f n j = 48)) y j = tt_fd f n x y) (H : Heap) (locs : List Loc), va_P D vwCl [(a, .inr (1, [.ref r, .int (nI n)])), (r, .inl (cB, 16384, .inl f))] H → va_S (fun _ => False) s.heap H locs → ∀ ls : Array Slot, lv_has ls 4 [(0, .ref a), (2, .int (nI y)), (3, .int (nI j))] → W p l e (headSpec w_DE_firstDigit rm_DE_firstDigit).room s m ([.ref a, .int (nI x), .int (nI y)] : List Value).toArray below meth c H locs 0 0 (MQ below (q_DE_firstDigit D cI cB cL a r f n x y) ([.ref a, .int (nI x), .int (nI y)] : List Value).toArray s 0 0 (fun _ => False)) (F0 m 18 ls []) := by
      intro k9
      induction k9 with
      | zero => intro j h9; exact absurd h9 (Nat.not_lt_zero _)
      | succ k9 ih_18 =>
        intro j h9 hj he H locs hP hS ls hl
        refine lv_iload_n hx hb d_DE_firstDigit_18 rfl (lv_at hl 2 rfl) ?_
        refine lv_iload_n hx hb d_DE_firstDigit_19 rfl (lv_at hl 1 rfl) ?_
        refine lv_icmp_ge (tgt := 39) hx hb d_DE_firstDigit_20 (by decide) (fun c_20 => ?_) (fun c_20 => ?_)
        · have c_20 : y ≤ j := (nI_leI (a := y) (b := j) (by omega) (by omega)).mp c_20
          refine lv_iload_n hx hb d_DE_firstDigit_39 rfl (lv_at hl 2 rfl) ?_
          have o_r : (nI j) = (nI (tt_fd f n x y)) := by rw [← he, tt_sw_out (fun z => by first | omega | simp_all)]
          exact W.iret (v := nI j) hx hb hr (fun t ht hW => ⟨⟨_, (), rfl, o_r, trivial⟩, hS.F ht⟩) hS.2.2 d_DE_firstDigit_40
        · have c_20 : ¬ y ≤ j := fun z9 => c_20 ((nI_leI (a := y) (b := j) (by omega) (by omega)).mpr z9)
          have c_20 := Nat.not_le.mp c_20
          refine lv_aload_n hx hb d_DE_firstDigit_23 rfl (lv_at hl 0 rfl) ?_
          refine lv_iload_n hx hb d_DE_firstDigit_24 rfl (lv_at hl 2 rfl) ?_
          refine tt_roI (va_runV (As := [.int (nI j)]) (rest := []) ⟨hx, hb, hml, hown, hts⟩ (c_BY_at l D cI cB cL a r f n j (by omega) (by omega)) (cwV 1 hts (tt_gV k_283 k_174 k_175 k_2 k_176) rfl rfl rfl hv_BY_at ⟨Nat.le_of_ble_eq_true rfl, Nat.le_of_ble_eq_true rfl⟩) (tt_ropreV (w := [(a, .inr (1, [.ref r, .int (nI n)])), (r, .inl (cB, 16384, .inl f))]) hK hP [0, 1] rfl (va_recv hK hP (ci := 1) (q0 := 0) rfl rfl)) rfl rfl hl.1 rfl (lv_room (Nat.le_of_ble_eq_true rfl)) d_DE_firstDigit_25 ⟨Nat.zero_le _, Nat.zero_le _⟩) hS hP (fun H locs hP hS => ?_)
          refine lv_bipush (v := 48) hx hb d_DE_firstDigit_28 (by decide) ?_
          refine lv_icmp_ne (tgt := 39) hx hb d_DE_firstDigit_30 (by decide) (fun c_30 => ?_) (fun c_30 => ?_)
          · skip
            refine lv_iload_n hx hb d_DE_firstDigit_39 rfl (lv_at hl 2 rfl) ?_
            have o_r : (nI j) = (nI (tt_fd f n x y)) := by rw [← he, tt_sw_out (fun z => by first | omega | simp_all)]
            exact W.iret (v := nI j) hx hb hr (fun t ht hW => ⟨⟨_, (), rfl, o_r, trivial⟩, hS.F ht⟩) hS.2.2 d_DE_firstDigit_40
          · skip
            refine lv_iinc (v := nI (j + 1)) (lv' := [(3, .int (nI (j + 1))), (0, .ref a), (2, .int (nI y))]) hx hb d_DE_firstDigit_33 hl (k := 2) rfl (nI_add j 1) (by decide) rfl (fun ls hl => ?_)
            refine lv_goto (tgt := 18) hx hb d_DE_firstDigit_36 (by decide) ?_
            exact ih_18 (j + 1) (by omega) (by omega) (by rw [tt_sw_in (by omega) (by simp [c_30])]; exact he) _ _ (hP.sub (ws' := [(a, .inr (1, [.ref r, .int (nI n)])), (r, .inl (cB, 16384, .inl f))]) [0, 1] rfl) hS ls (lv_sub hl [1, 2, 0] rfl)
    exact cut_18 _ (x + 1) (Nat.lt_succ_self _) (by omega) (by simp [tt_fd, eq_true c_7]) _ _ (hP.sub (ws' := [(a, .inr (1, [.ref r, .int (nI n)])), (r, .inl (cB, 16384, .inl f))]) [0, 1] rfl) hS ls (lv_sub hl [1, 3, 0] rfl)
abbrev rm_DE_isBelowZero : Room := { frames := 2, cells := 0, slots := 0, locals := 44 }
abbrev q_DE_isBelowZero (D : va_G) (cI cB cL : ClassId) (a r : Nat) (f : Nat → Int32) (n : Nat) (x y : Nat) : Array Value → State → Outcome → State → Prop := va_Qi (fun r9 (_ : Unit) => r9 = (tt_b (decide (tt_ch f n x = 45) && decide (tt_fd f n x y < y)))) (fun _ _ => True) (fun _ => False)
set_option maxHeartbeats 4000000 in
set_option maxRecDepth 100000 in
theorem c_DE_isBelowZero (l : Launch) (D : va_G) (cI cB cL : ClassId) (a r : Nat) (f : Nat → Int32) (n : Nat) (x y : Nat) (hn : n ≤ 16384) (hx : x < 1073741824) (hy : y < 1073741824) : Met l y_DE_isBelowZero w_DE_isBelowZero rm_DE_isBelowZero (va_Pc [.ref a, .int (nI x), .int (nI y)] (fun U => va_P D vwCl [(a, .inr (1, [.ref r, .int (nI n)])), (r, .inl (cB, 16384, .inl f))] U.heap ∧ va_K D vwCl (tt_ty cI cB cL) U)) (q_DE_isBelowZero D cI cB cL a r f n x y) 0 0 (fun _ => False) := by
  refine Met.ofW (cc := b_DE_isBelowZero) (maxL := 3) (ret := (some .boolean)) (by decide) rfl ?_
  intro p e s m args below meth c s₁ B hml hv
  obtain ⟨rfl, hP, hK⟩ := hv
  have hx := B.exec
  have hb := B.bytes
  have hr := B.returns
  have hts := atoms_spec (ws := w_DE_isBelowZero) B.pre
  have htT : ∀ w ∈ tt_T, w.before _ s = true := fun w h => hts w (List.mem_cons_of_mem _ h)
  have hown : s.vm.findClass R_DE = some m.cls := findClass_of_methodNamed B.named
  have hlocks := B.notSynchronized
  have hS : va_S (fun _ => False) s.heap s.heap [] := va_S.rf
  have hl := lv_entry ([.ref a, .int (nI x), .int (nI y)]) (n := 3) (Nat.le_of_ble_eq_true rfl)
  rw [lg_entry_eq]
  generalize (lg_sl ([.ref a, .int (nI x), .int (nI y)]) ++ List.replicate (3 - (lg_sl ([.ref a, .int (nI x), .int (nI y)])).length) Slot.unset).toArray = ls at hl ⊢
  have hl : lv_has ls 3 [(0, .ref a), (1, .int (nI x)), (2, .int (nI y))] := hl
  have hP : va_P D vwCl [(a, .inr (1, [.ref r, .int (nI n)])), (r, .inl (cB, 16384, .inl f))] s.heap := hP
  refine lv_aload_n hx hb d_DE_isBelowZero_0 rfl (lv_at hl 0 rfl) ?_
  refine lv_iload_n hx hb d_DE_isBelowZero_1 rfl (lv_at hl 1 rfl) ?_
  refine tt_roI (va_runV (As := [.int (nI x)]) (rest := []) ⟨hx, hb, hml, hown, hts⟩ (c_BY_at l D cI cB cL a r f n x (by omega) (by omega)) (cwV 1 hts (tt_gV k_283 k_174 k_175 k_2 k_176) rfl rfl rfl hv_BY_at ⟨Nat.le_of_ble_eq_true rfl, Nat.le_of_ble_eq_true rfl⟩) (tt_ropreV (w := [(a, .inr (1, [.ref r, .int (nI n)])), (r, .inl (cB, 16384, .inl f))]) hK hP [0, 1] rfl (va_recv hK hP (ci := 1) (q0 := 0) rfl rfl)) rfl rfl hl.1 rfl (lv_room (Nat.le_of_ble_eq_true rfl)) d_DE_isBelowZero_2 ⟨Nat.zero_le _, Nat.zero_le _⟩) hS hP (fun H locs hP hS => ?_)
  refine lv_bipush (v := 45) hx hb d_DE_isBelowZero_5 (by decide) ?_
  refine lv_icmp_ne (tgt := 24) hx hb d_DE_isBelowZero_7 (by decide) (fun c_7 => ?_) (fun c_7 => ?_)
  · skip
    refine lv_iconst (v := 0) hx hb d_DE_isBelowZero_24 (by decide) ?_
    have o_r : (0 : Int32) = (tt_b (decide (tt_ch f n x = 45) && decide (tt_fd f n x y < y))) := by simp [tt_b, c_7] <;> (intros; omega)
    exact W.zret (ty := .boolean) (v := 0) hx hb hr (tt_nz o_r) (fun t ht hW => ⟨⟨_, (), rfl, o_r, trivial⟩, hS.F ht⟩) hS.2.2 d_DE_isBelowZero_25
  · skip
    refine lv_aload_n hx hb d_DE_isBelowZero_10 rfl (lv_at hl 0 rfl) ?_
    refine lv_iload_n hx hb d_DE_isBelowZero_11 rfl (lv_at hl 1 rfl) ?_
    refine lv_iload_n hx hb d_DE_isBelowZero_12 rfl (lv_at hl 2 rfl) ?_
    refine tt_roI (va_runS (As := [.ref a, .int (nI x), .int (nI y)]) (rest := []) ⟨hx, hb, hml, hown, hts⟩ (c_DE_firstDigit l D cI cB cL a r f n x y (by omega) (by omega) (by omega)) (cwS 3 hts (tt_gS k_280 k_281 k_16 k_282) rfl rfl rfl hv_DE_firstDigit ⟨Nat.le_of_ble_eq_true rfl, Nat.le_of_ble_eq_true rfl⟩) (tt_ropreS (w := [(a, .inr (1, [.ref r, .int (nI n)])), (r, .inl (cB, 16384, .inl f))]) hK hP [0, 1] rfl) rfl rfl hl.1 rfl (lv_room (Nat.le_of_ble_eq_true rfl)) d_DE_isBelowZero_13 ⟨Nat.zero_le _, Nat.zero_le _⟩) hS hP (fun H locs hP hS => ?_)
    have b_13_0 := tt_fdb f n x y
    refine lv_iload_n hx hb d_DE_isBelowZero_16 rfl (lv_at hl 2 rfl) ?_
    refine lv_icmp_ge (tgt := 24) hx hb d_DE_isBelowZero_17 (by decide) (fun c_17 => ?_) (fun c_17 => ?_)
    · have c_17 : y ≤ (tt_fd f n x y) := (nI_leI (a := y) (b := (tt_fd f n x y)) (by omega) (by omega)).mp c_17
      refine lv_iconst (v := 0) hx hb d_DE_isBelowZero_24 (by decide) ?_
      have o_r : (0 : Int32) = (tt_b (decide (tt_ch f n x = 45) && decide (tt_fd f n x y < y))) := by simp [tt_b, eq_true c_7, c_17, Nat.not_lt.mpr c_17] <;> (intros; omega)
      exact W.zret (ty := .boolean) (v := 0) hx hb hr (tt_nz o_r) (fun t ht hW => ⟨⟨_, (), rfl, o_r, trivial⟩, hS.F ht⟩) hS.2.2 d_DE_isBelowZero_25
    · have c_17 : ¬ y ≤ (tt_fd f n x y) := fun z9 => c_17 ((nI_leI (a := y) (b := (tt_fd f n x y)) (by omega) (by omega)).mpr z9)
      have c_17 := Nat.not_le.mp c_17
      refine lv_iconst (v := 1) hx hb d_DE_isBelowZero_20 (by decide) ?_
      refine lv_goto (tgt := 25) hx hb d_DE_isBelowZero_21 (by decide) ?_
      have o_r : (1 : Int32) = (tt_b (decide (tt_ch f n x = 45) && decide (tt_fd f n x y < y))) := by simp [tt_b, eq_true c_7, c_17, Nat.not_le.mpr c_17] <;> (intros; omega)
      exact W.zret (ty := .boolean) (v := 1) hx hb hr (tt_nz o_r) (fun t ht hW => ⟨⟨_, (), rfl, o_r, trivial⟩, hS.F ht⟩) hS.2.2 d_DE_isBelowZero_25
abbrev rm_ME_lengthOfBytes : Room := { frames := 0, cells := 0, slots := 0, locals := 0 }
abbrev q_ME_lengthOfBytes (D : va_G) (cI cB cL : ClassId) (x y : Nat) : Array Value → State → Outcome → State → Prop := va_Qi (fun r9 (_ : Unit) => r9 = (nI ((y - x) / 2 - 1))) (fun _ _ => True) (fun _ => False)
set_option maxHeartbeats 4000000 in
set_option maxRecDepth 100000 in
theorem c_ME_lengthOfBytes (l : Launch) (D : va_G) (cI cB cL : ClassId) (x y : Nat) (hxy : x + 2 ≤ y) (hy : y < 1073741824) : Met l y_ME_lengthOfBytes w_ME_lengthOfBytes rm_ME_lengthOfBytes (va_Pc [.int (nI x), .int (nI y)] (fun U => va_P D vwCl [] U.heap ∧ va_K D vwCl (tt_ty cI cB cL) U)) (q_ME_lengthOfBytes D cI cB cL x y) 0 0 (fun _ => False) := by
  refine Met.ofW (cc := b_ME_lengthOfBytes) (maxL := 2) (ret := (some .int)) (by decide) rfl ?_
  intro p e s m args below meth c s₁ B hml hv
  obtain ⟨rfl, hP, hK⟩ := hv
  have hx := B.exec
  have hb := B.bytes
  have hr := B.returns
  have hts := atoms_spec (ws := w_ME_lengthOfBytes) B.pre
  have htT : ∀ w ∈ tt_T, w.before _ s = true := fun w h => hts w (List.mem_cons_of_mem _ h)
  have hown : s.vm.findClass R_ME = some m.cls := findClass_of_methodNamed B.named
  have hlocks := B.notSynchronized
  have hS : va_S (fun _ => False) s.heap s.heap [] := va_S.rf
  have hl := lv_entry ([.int (nI x), .int (nI y)]) (n := 2) (Nat.le_of_ble_eq_true rfl)
  rw [lg_entry_eq]
  generalize (lg_sl ([.int (nI x), .int (nI y)]) ++ List.replicate (2 - (lg_sl ([.int (nI x), .int (nI y)])).length) Slot.unset).toArray = ls at hl ⊢
  have hl : lv_has ls 2 [(0, .int (nI x)), (1, .int (nI y))] := hl
  have hP : va_P D vwCl [] s.heap := hP
  refine lv_iload_n hx hb d_ME_lengthOfBytes_0 rfl (lv_at hl 1 rfl) ?_
  refine lv_iload_n hx hb d_ME_lengthOfBytes_1 rfl (lv_at hl 0 rfl) ?_
  refine lv_isub hx hb d_ME_lengthOfBytes_2 ?_
  refine tt_ti (show (nI y) - (nI x) = nI (y - x) from pk_sub (a := y) (b := x) (by omega)) ?_
  refine lv_iconst (v := 2) hx hb d_ME_lengthOfBytes_3 (by decide) ?_
  refine lv_idiv hx hb d_ME_lengthOfBytes_4 (by decide) ?_
  refine tt_ti (show (nI (y - x)) / 2 = nI ((y - x) / 2) from pk_div (a := (y - x)) (d := 2) (by omega) (by omega) (by omega)) ?_
  refine lv_iconst (v := 1) hx hb d_ME_lengthOfBytes_5 (by decide) ?_
  refine lv_isub hx hb d_ME_lengthOfBytes_6 ?_
  refine tt_ti (show (nI ((y - x) / 2)) - 1 = nI (((y - x) / 2) - 1) from pk_sub (a := ((y - x) / 2)) (b := 1) (by omega)) ?_
  have o_r : (nI (((y - x) / 2) - 1)) = (nI ((y - x) / 2 - 1)) := rfl
  exact W.iret (v := nI (((y - x) / 2) - 1)) hx hb hr (fun t ht hW => ⟨⟨_, (), rfl, o_r, trivial⟩, hS.F ht⟩) hS.2.2 d_ME_lengthOfBytes_7
abbrev rm_ME_lengthOfString : Room := { frames := 1, cells := 0, slots := 0, locals := 21 }
abbrev q_ME_lengthOfString (D : va_G) (cI cB cL : ClassId) (a r : Nat) (f : Nat → Int32) (n : Nat) (x y : Nat) : Array Value → State → Outcome → State → Prop := va_Qi (fun r9 (_ : Unit) => r9 = (nI (tt_sl f n (y - 1) (x + 1)))) (fun _ _ => True) (fun _ => False)
set_option maxHeartbeats 4000000 in
set_option maxRecDepth 100000 in
theorem c_ME_lengthOfString (l : Launch) (D : va_G) (cI cB cL : ClassId) (a r : Nat) (f : Nat → Int32) (n : Nat) (x y : Nat) (hn : n ≤ 16384) (hx : x + 2 ≤ y) (hy : y < 1073741824) : Met l y_ME_lengthOfString w_ME_lengthOfString rm_ME_lengthOfString (va_Pc [.ref a, .int (nI x), .int (nI y)] (fun U => va_P D vwCl [(a, .inr (1, [.ref r, .int (nI n)])), (r, .inl (cB, 16384, .inl f))] U.heap ∧ va_K D vwCl (tt_ty cI cB cL) U)) (q_ME_lengthOfString D cI cB cL a r f n x y) 0 0 (fun _ => False) := by
  refine Met.ofW (cc := b_ME_lengthOfString) (maxL := 5) (ret := (some .int)) (by decide) rfl ?_
  intro p e s m args below meth c s₁ B hml hv
  obtain ⟨rfl, hP, hK⟩ := hv
  have hx := B.exec
  have hb := B.bytes
  have hr := B.returns
  have hts := atoms_spec (ws := w_ME_lengthOfString) B.pre
  have htT : ∀ w ∈ tt_T, w.before _ s = true := fun w h => hts w (List.mem_cons_of_mem _ h)
  have hown : s.vm.findClass R_ME = some m.cls := findClass_of_methodNamed B.named
  have hlocks := B.notSynchronized
  have hS : va_S (fun _ => False) s.heap s.heap [] := va_S.rf
  have hl := lv_entry ([.ref a, .int (nI x), .int (nI y)]) (n := 5) (Nat.le_of_ble_eq_true rfl)
  rw [lg_entry_eq]
  generalize (lg_sl ([.ref a, .int (nI x), .int (nI y)]) ++ List.replicate (5 - (lg_sl ([.ref a, .int (nI x), .int (nI y)])).length) Slot.unset).toArray = ls at hl ⊢
  have hl : lv_has ls 5 [(0, .ref a), (1, .int (nI x)), (2, .int (nI y))] := hl
  have hP : va_P D vwCl [(a, .inr (1, [.ref r, .int (nI n)])), (r, .inl (cB, 16384, .inl f))] s.heap := hP
  refine lv_iconst (v := 0) hx hb d_ME_lengthOfString_0 (by decide) ?_
  refine lv_istore_n (lv' := [(3, .int 0), (0, .ref a), (1, .int (nI x)), (2, .int (nI y))]) hx hb d_ME_lengthOfString_1 rfl hl (by decide) rfl (fun ls hl => ?_)
  refine lv_iload_n hx hb d_ME_lengthOfString_2 rfl (lv_at hl 2 rfl) ?_
  refine lv_iconst (v := 1) hx hb d_ME_lengthOfString_3 (by decide) ?_
  refine lv_iadd hx hb d_ME_lengthOfString_4 ?_
  refine tt_ti (show (nI x) + 1 = nI (x + 1) from nI_add x 1) ?_
  refine lv_istore (lv' := [(4, .int (nI (x + 1))), (3, .int 0), (0, .ref a), (1, .int (nI x)), (2, .int (nI y))]) hx hb d_ME_lengthOfString_5 hl (by decide) rfl (fun ls hl => ?_)
  have cut_7 : ∀ (k9 : Nat) (k : Nat) (j : Nat) (_ : y - j < k9) (hj : x + 1 ≤ j ∧ j ≤ y ∧ k ≤ j) (he : k + tt_sl f n (y - 1) j = tt_sl f n (y - 1) (x + 1)) (H : Heap) (locs : List Loc), va_P D vwCl [(a, .inr (1, [.ref r, .int (nI n)])), (r, .inl (cB, 16384, .inl f))] H → va_S (fun _ => False) s.heap H locs → ∀ ls : Array Slot, lv_has ls 5 [(0, .ref a), (2, .int (nI y)), (3, .int (nI k)), (4, .int (nI j))] → W p l e (headSpec w_ME_lengthOfString rm_ME_lengthOfString).room s m ([.ref a, .int (nI x), .int (nI y)] : List Value).toArray below meth c H locs 0 0 (MQ below (q_ME_lengthOfString D cI cB cL a r f n x y) ([.ref a, .int (nI x), .int (nI y)] : List Value).toArray s 0 0 (fun _ => False)) (F0 m 7 ls []) := by
    intro k9
    induction k9 with
    | zero => intro k j h9; exact absurd h9 (Nat.not_lt_zero _)
    | succ k9 ih_7 =>
      intro k j h9 hj he H locs hP hS ls hl
      refine lv_iload hx hb d_ME_lengthOfString_7 (lv_at hl 3 rfl) ?_
      refine lv_iload_n hx hb d_ME_lengthOfString_9 rfl (lv_at hl 1 rfl) ?_
      refine lv_iconst (v := 1) hx hb d_ME_lengthOfString_10 (by decide) ?_
      refine lv_isub hx hb d_ME_lengthOfString_11 ?_
      refine tt_ti (show (nI y) - 1 = nI (y - 1) from pk_sub (a := y) (b := 1) (by omega)) ?_
      refine lv_icmp_ge (tgt := 38) hx hb d_ME_lengthOfString_12 (by decide) (fun c_12 => ?_) (fun c_12 => ?_)
      · have c_12 : (y - 1) ≤ j := (nI_leI (a := (y - 1)) (b := j) (by omega) (by omega)).mp c_12
        refine lv_iload_n hx hb d_ME_lengthOfString_38 rfl (lv_at hl 2 rfl) ?_
        have o_r : (nI k) = (nI (tt_sl f n (y - 1) (x + 1))) := by rw [tt_sl_out (by omega)] at he; rw [← he]; rfl
        exact W.iret (v := nI k) hx hb hr (fun t ht hW => ⟨⟨_, (), rfl, o_r, trivial⟩, hS.F ht⟩) hS.2.2 d_ME_lengthOfString_39
      · have c_12 : ¬ (y - 1) ≤ j := fun z9 => c_12 ((nI_leI (a := (y - 1)) (b := j) (by omega) (by omega)).mpr z9)
        have c_12 := Nat.not_le.mp c_12
        refine lv_aload_n hx hb d_ME_lengthOfString_15 rfl (lv_at hl 0 rfl) ?_
        refine lv_iload hx hb d_ME_lengthOfString_16 (lv_at hl 3 rfl) ?_
        refine tt_roI (va_runV (As := [.int (nI j)]) (rest := []) ⟨hx, hb, hml, hown, hts⟩ (c_BY_at l D cI cB cL a r f n j (by omega) (by omega)) (cwV 1 hts (tt_gV k_502 k_174 k_175 k_2 k_176) rfl rfl rfl hv_BY_at ⟨Nat.le_of_ble_eq_true rfl, Nat.le_of_ble_eq_true rfl⟩) (tt_ropreV (w := [(a, .inr (1, [.ref r, .int (nI n)])), (r, .inl (cB, 16384, .inl f))]) hK hP [0, 1] rfl (va_recv hK hP (ci := 1) (q0 := 0) rfl rfl)) rfl rfl hl.1 rfl (lv_room (Nat.le_of_ble_eq_true rfl)) d_ME_lengthOfString_18 ⟨Nat.zero_le _, Nat.zero_le _⟩) hS hP (fun H locs hP hS => ?_)
        refine lv_bipush (v := 92) hx hb d_ME_lengthOfString_21 (by decide) ?_
        refine lv_icmp_ne (tgt := 29) hx hb d_ME_lengthOfString_23 (by decide) (fun c_23 => ?_) (fun c_23 => ?_)
        · skip
          refine lv_iinc (v := nI (k + 1)) (lv' := [(3, .int (nI (k + 1))), (0, .ref a), (2, .int (nI y)), (4, .int (nI j))]) hx hb d_ME_lengthOfString_29 hl (k := 2) rfl (nI_add k 1) (by decide) rfl (fun ls hl => ?_)
          refine lv_iinc (v := nI (j + 1)) (lv' := [(4, .int (nI (j + 1))), (3, .int (nI (k + 1))), (0, .ref a), (2, .int (nI y))]) hx hb d_ME_lengthOfString_32 hl (k := 3) rfl (nI_add j 1) (by decide) rfl (fun ls hl => ?_)
          refine lv_goto (tgt := 7) hx hb d_ME_lengthOfString_35 (by decide) ?_
          exact ih_7 (k + 1) (j + 1) (by omega) (by omega) (by rw [tt_sl_in c_12] at he; simp only [tt_nx, c_12, Nat.not_le.mpr c_12, c_23, if_true, if_false] at he; omega) _ _ (hP.sub (ws' := [(a, .inr (1, [.ref r, .int (nI n)])), (r, .inl (cB, 16384, .inl f))]) [0, 1] rfl) hS ls (lv_sub hl [2, 3, 1, 0] rfl)
        · skip
          refine lv_iinc (v := nI (j + 1)) (lv' := [(4, .int (nI (j + 1))), (0, .ref a), (2, .int (nI y)), (3, .int (nI k))]) hx hb d_ME_lengthOfString_26 hl (k := 3) rfl (nI_add j 1) (by decide) rfl (fun ls hl => ?_)
          refine lv_iinc (v := nI (k + 1)) (lv' := [(3, .int (nI (k + 1))), (4, .int (nI (j + 1))), (0, .ref a), (2, .int (nI y))]) hx hb d_ME_lengthOfString_29 hl (k := 3) rfl (nI_add k 1) (by decide) rfl (fun ls hl => ?_)
          refine lv_iinc (v := nI (j + 2)) (lv' := [(4, .int (nI (j + 2))), (3, .int (nI (k + 1))), (0, .ref a), (2, .int (nI y))]) hx hb d_ME_lengthOfString_32 hl (k := 1) rfl (nI_add (j + 1) 1) (by decide) rfl (fun ls hl => ?_)
          refine lv_goto (tgt := 7) hx hb d_ME_lengthOfString_35 (by decide) ?_
          exact ih_7 (k + 1) (j + 2) (by omega) (by omega) (by rw [tt_sl_in c_12] at he; simp only [tt_nx, c_12, Nat.not_le.mpr c_12, eq_true c_23, if_true, if_false] at he; omega) _ _ (hP.sub (ws' := [(a, .inr (1, [.ref r, .int (nI n)])), (r, .inl (cB, 16384, .inl f))]) [0, 1] rfl) hS ls (lv_sub hl [2, 3, 1, 0] rfl)
  exact cut_7 _ 0 (x + 1) (Nat.lt_succ_self _) (by omega) (by omega) _ _ (hP.sub (ws' := [(a, .inr (1, [.ref r, .int (nI n)])), (r, .inl (cB, 16384, .inl f))]) [0, 1] rfl) hS ls (lv_sub hl [2, 4, 1, 0] rfl)
abbrev rm_ME_partOfString : Room := { frames := 1, cells := 0, slots := 0, locals := 21 }
abbrev q_ME_partOfString (D : va_G) (cI cB cL : ClassId) (a r : Nat) (f : Nat → Int32) (n : Nat) (x y : Nat) (i : Int32) : Array Value → State → Outcome → State → Prop := va_Qi (fun r9 (_ : Unit) => r9 = (tt_sp f n (y - 1) i 0 (x + 1))) (fun _ _ => True) (fun _ => False)
set_option maxHeartbeats 4000000 in
set_option maxRecDepth 100000 in
theorem c_ME_partOfString (l : Launch) (D : va_G) (cI cB cL : ClassId) (a r : Nat) (f : Nat → Int32) (n : Nat) (x y : Nat) (i : Int32) (hn : n ≤ 16384) (hx : x + 2 ≤ y) (hy : y < 1073741824) : Met l y_ME_partOfString w_ME_partOfString rm_ME_partOfString (va_Pc [.ref a, .int (nI x), .int (nI y), .int i] (fun U => va_P D vwCl [(a, .inr (1, [.ref r, .int (nI n)])), (r, .inl (cB, 16384, .inl f))] U.heap ∧ va_K D vwCl (tt_ty cI cB cL) U)) (q_ME_partOfString D cI cB cL a r f n x y i) 0 0 (fun _ => False) := by
  refine Met.ofW (cc := b_ME_partOfString) (maxL := 7) (ret := (some .int)) (by decide) rfl ?_
  intro p e s m args below meth c s₁ B hml hv
  obtain ⟨rfl, hP, hK⟩ := hv
  have hx := B.exec
  have hb := B.bytes
  have hr := B.returns
  have hts := atoms_spec (ws := w_ME_partOfString) B.pre
  have htT : ∀ w ∈ tt_T, w.before _ s = true := fun w h => hts w (List.mem_cons_of_mem _ h)
  have hown : s.vm.findClass R_ME = some m.cls := findClass_of_methodNamed B.named
  have hlocks := B.notSynchronized
  have hS : va_S (fun _ => False) s.heap s.heap [] := va_S.rf
  have hl := lv_entry ([.ref a, .int (nI x), .int (nI y), .int i]) (n := 7) (Nat.le_of_ble_eq_true rfl)
  rw [lg_entry_eq]
  generalize (lg_sl ([.ref a, .int (nI x), .int (nI y), .int i]) ++ List.replicate (7 - (lg_sl ([.ref a, .int (nI x), .int (nI y), .int i])).length) Slot.unset).toArray = ls at hl ⊢
  have hl : lv_has ls 7 [(0, .ref a), (1, .int (nI x)), (2, .int (nI y)), (3, .int i)] := hl
  have hP : va_P D vwCl [(a, .inr (1, [.ref r, .int (nI n)])), (r, .inl (cB, 16384, .inl f))] s.heap := hP
  refine lv_iconst (v := 0) hx hb d_ME_partOfString_0 (by decide) ?_
  refine lv_istore (lv' := [(4, .int 0), (0, .ref a), (1, .int (nI x)), (2, .int (nI y)), (3, .int i)]) hx hb d_ME_partOfString_1 hl (by decide) rfl (fun ls hl => ?_)
  refine lv_iload_n hx hb d_ME_partOfString_3 rfl (lv_at hl 2 rfl) ?_
  refine lv_iconst (v := 1) hx hb d_ME_partOfString_4 (by decide) ?_
  refine lv_iadd hx hb d_ME_partOfString_5 ?_
  refine tt_ti (show (nI x) + 1 = nI (x + 1) from nI_add x 1) ?_
  refine lv_istore (lv' := [(5, .int (nI (x + 1))), (4, .int 0), (0, .ref a), (1, .int (nI x)), (2, .int (nI y)), (3, .int i)]) hx hb d_ME_partOfString_6 hl (by decide) rfl (fun ls hl => ?_)
  have cut_8 : ∀ (k9 : Nat) (k : Nat) (j : Nat) (_ : y - j < k9) (hj : x + 1 ≤ j ∧ j ≤ y ∧ k ≤ j) (he : tt_sp f n (y - 1) i k j = tt_sp f n (y - 1) i 0 (x + 1)) (H : Heap) (locs : List Loc), va_P D vwCl [(a, .inr (1, [.ref r, .int (nI n)])), (r, .inl (cB, 16384, .inl f))] H → va_S (fun _ => False) s.heap H locs → ∀ ls : Array Slot, lv_has ls 7 [(0, .ref a), (2, .int (nI y)), (3, .int i), (4, .int (nI k)), (5, .int (nI j))] → W p l e (headSpec w_ME_partOfString rm_ME_partOfString).room s m ([.ref a, .int (nI x), .int (nI y), .int i] : List Value).toArray below meth c H locs 0 0 (MQ below (q_ME_partOfString D cI cB cL a r f n x y i) ([.ref a, .int (nI x), .int (nI y), .int i] : List Value).toArray s 0 0 (fun _ => False)) (F0 m 8 ls []) := by
    intro k9
    induction k9 with
    | zero => intro k j h9; exact absurd h9 (Nat.not_lt_zero _)
    | succ k9 ih_8 =>
      intro k j h9 hj he H locs hP hS ls hl
      refine lv_iload hx hb d_ME_partOfString_8 (lv_at hl 4 rfl) ?_
      refine lv_iload_n hx hb d_ME_partOfString_10 rfl (lv_at hl 1 rfl) ?_
      refine lv_iconst (v := 1) hx hb d_ME_partOfString_11 (by decide) ?_
      refine lv_isub hx hb d_ME_partOfString_12 ?_
      refine tt_ti (show (nI y) - 1 = nI (y - 1) from pk_sub (a := y) (b := 1) (by omega)) ?_
      refine lv_icmp_ge (tgt := 63) hx hb d_ME_partOfString_13 (by decide) (fun c_13 => ?_) (fun c_13 => ?_)
      · have c_13 : (y - 1) ≤ j := (nI_leI (a := (y - 1)) (b := j) (by omega) (by omega)).mp c_13
        refine lv_iconst (v := (-1)) hx hb d_ME_partOfString_63 (by decide) ?_
        have o_r : ((-1) : Int32) = (tt_sp f n (y - 1) i 0 (x + 1)) := by rw [← he, tt_sp]; simp [tt_cv, c_13, Nat.not_lt.mpr c_13] <;> (intros; omega)
        exact W.iret (v := (-1)) hx hb hr (fun t ht hW => ⟨⟨_, (), rfl, o_r, trivial⟩, hS.F ht⟩) hS.2.2 d_ME_partOfString_64
      · have c_13 : ¬ (y - 1) ≤ j := fun z9 => c_13 ((nI_leI (a := (y - 1)) (b := j) (by omega) (by omega)).mpr z9)
        have c_13 := Nat.not_le.mp c_13
        refine lv_aload_n hx hb d_ME_partOfString_16 rfl (lv_at hl 0 rfl) ?_
        refine lv_iload hx hb d_ME_partOfString_17 (lv_at hl 4 rfl) ?_
        refine tt_roI (va_runV (As := [.int (nI j)]) (rest := []) ⟨hx, hb, hml, hown, hts⟩ (c_BY_at l D cI cB cL a r f n j (by omega) (by omega)) (cwV 1 hts (tt_gV k_502 k_174 k_175 k_2 k_176) rfl rfl rfl hv_BY_at ⟨Nat.le_of_ble_eq_true rfl, Nat.le_of_ble_eq_true rfl⟩) (tt_ropreV (w := [(a, .inr (1, [.ref r, .int (nI n)])), (r, .inl (cB, 16384, .inl f))]) hK hP [0, 1] rfl (va_recv hK hP (ci := 1) (q0 := 0) rfl rfl)) rfl rfl hl.1 rfl (lv_room (Nat.le_of_ble_eq_true rfl)) d_ME_partOfString_19 ⟨Nat.zero_le _, Nat.zero_le _⟩) hS hP (fun H locs hP hS => ?_)
        refine lv_istore (lv' := [(6, .int (tt_ch f n j)), (0, .ref a), (2, .int (nI y)), (3, .int i), (4, .int (nI k)), (5, .int (nI j))]) hx hb d_ME_partOfString_22 hl (by decide) rfl (fun ls hl => ?_)
        refine lv_iload hx hb d_ME_partOfString_24 (lv_at hl 0 rfl) ?_
        refine lv_bipush (v := 92) hx hb d_ME_partOfString_26 (by decide) ?_
        refine lv_icmp_ne (tgt := 45) hx hb d_ME_partOfString_28 (by decide) (fun c_28 => ?_) (fun c_28 => ?_)
        · skip
          refine lv_iload hx hb d_ME_partOfString_45 (lv_at hl 4 rfl) ?_
          refine lv_iload_n hx hb d_ME_partOfString_47 rfl (lv_at hl 3 rfl) ?_
          refine lv_icmp_ne (tgt := 54) hx hb d_ME_partOfString_48 (by decide) (fun c_48 => ?_) (fun c_48 => ?_)
          · skip
            refine lv_iinc (v := nI (k + 1)) (lv' := [(4, .int (nI (k + 1))), (6, .int (tt_ch f n j)), (0, .ref a), (2, .int (nI y)), (3, .int i), (5, .int (nI j))]) hx hb d_ME_partOfString_54 hl (k := 4) rfl (nI_add k 1) (by decide) rfl (fun ls hl => ?_)
            refine lv_iinc (v := nI (j + 1)) (lv' := [(5, .int (nI (j + 1))), (4, .int (nI (k + 1))), (6, .int (tt_ch f n j)), (0, .ref a), (2, .int (nI y)), (3, .int i)]) hx hb d_ME_partOfString_57 hl (k := 5) rfl (nI_add j 1) (by decide) rfl (fun ls hl => ?_)
            refine lv_goto (tgt := 8) hx hb d_ME_partOfString_60 (by decide) ?_
            exact ih_8 (k + 1) (j + 1) (by omega) (by omega) (by rw [← he]; (conv => rhs; rw [tt_sp]); simp [tt_nx, c_13, Nat.not_le.mpr c_13, c_28, c_48]) _ _ (hP.sub (ws' := [(a, .inr (1, [.ref r, .int (nI n)])), (r, .inl (cB, 16384, .inl f))]) [0, 1] rfl) hS ls (lv_sub hl [3, 4, 5, 1, 0] rfl)
          · skip
            refine lv_iload hx hb d_ME_partOfString_51 (lv_at hl 0 rfl) ?_
            have o_r : (tt_ch f n j) = (tt_sp f n (y - 1) i 0 (x + 1)) := by rw [← he, tt_sp]; simp [tt_cv, c_13, Nat.not_le.mpr c_13, c_28, eq_true c_48] <;> (intros; omega)
            exact W.iret (v := tt_ch f n j) hx hb hr (fun t ht hW => ⟨⟨_, (), rfl, o_r, trivial⟩, hS.F ht⟩) hS.2.2 d_ME_partOfString_53
        · skip
          refine lv_iinc (v := nI (j + 1)) (lv' := [(5, .int (nI (j + 1))), (6, .int (tt_ch f n j)), (0, .ref a), (2, .int (nI y)), (3, .int i), (4, .int (nI k))]) hx hb d_ME_partOfString_31 hl (k := 5) rfl (nI_add j 1) (by decide) rfl (fun ls hl => ?_)
          refine lv_aload_n hx hb d_ME_partOfString_34 rfl (lv_at hl 2 rfl) ?_
          refine lv_iload hx hb d_ME_partOfString_35 (lv_at hl 0 rfl) ?_
          refine tt_roI (va_runV (As := [.int (nI (j + 1))]) (rest := []) ⟨hx, hb, hml, hown, hts⟩ (c_BY_at l D cI cB cL a r f n (j + 1) (by omega) (by omega)) (cwV 1 hts (tt_gV k_502 k_174 k_175 k_2 k_176) rfl rfl rfl hv_BY_at ⟨Nat.le_of_ble_eq_true rfl, Nat.le_of_ble_eq_true rfl⟩) (tt_ropreV (w := [(a, .inr (1, [.ref r, .int (nI n)])), (r, .inl (cB, 16384, .inl f))]) hK hP [0, 1] rfl (va_recv hK hP (ci := 1) (q0 := 0) rfl rfl)) rfl rfl hl.1 rfl (lv_room (Nat.le_of_ble_eq_true rfl)) d_ME_partOfString_37 ⟨Nat.zero_le _, Nat.zero_le _⟩) hS hP (fun H locs hP hS => ?_)
          refine tt_roI (va_runS (As := [.int (tt_ch f n (j + 1))]) (rest := []) ⟨hx, hb, hml, hown, hts⟩ (c_CH_escaped l D cI cB cL (tt_ch f n (j + 1))) (va_cwS 1 hts (tt_gS2 k_514 k_241 k_14 k_242) rfl rfl rfl hv_CH_escaped.2 ⟨Nat.le_of_ble_eq_true rfl, Nat.le_of_ble_eq_true rfl⟩) (tt_ropreS (w := []) hK hP [] rfl) rfl rfl hl.1 rfl (lv_room (Nat.le_of_ble_eq_true rfl)) d_ME_partOfString_40 ⟨Nat.zero_le _, Nat.zero_le _⟩) hS hP (fun H locs hP hS => ?_)
          refine lv_istore (lv' := [(6, .int (tt_esc (tt_ch f n (j + 1)))), (5, .int (nI (j + 1))), (0, .ref a), (2, .int (nI y)), (3, .int i), (4, .int (nI k))]) hx hb d_ME_partOfString_43 hl (by decide) rfl (fun ls hl => ?_)
          refine lv_iload hx hb d_ME_partOfString_45 (lv_at hl 5 rfl) ?_
          refine lv_iload_n hx hb d_ME_partOfString_47 rfl (lv_at hl 4 rfl) ?_
          refine lv_icmp_ne (tgt := 54) hx hb d_ME_partOfString_48 (by decide) (fun c_48 => ?_) (fun c_48 => ?_)
          · skip
            refine lv_iinc (v := nI (k + 1)) (lv' := [(4, .int (nI (k + 1))), (6, .int (tt_esc (tt_ch f n (j + 1)))), (5, .int (nI (j + 1))), (0, .ref a), (2, .int (nI y)), (3, .int i)]) hx hb d_ME_partOfString_54 hl (k := 5) rfl (nI_add k 1) (by decide) rfl (fun ls hl => ?_)
            refine lv_iinc (v := nI (j + 2)) (lv' := [(5, .int (nI (j + 2))), (4, .int (nI (k + 1))), (6, .int (tt_esc (tt_ch f n (j + 1)))), (0, .ref a), (2, .int (nI y)), (3, .int i)]) hx hb d_ME_partOfString_57 hl (k := 2) rfl (nI_add (j + 1) 1) (by decide) rfl (fun ls hl => ?_)
            refine lv_goto (tgt := 8) hx hb d_ME_partOfString_60 (by decide) ?_
            exact ih_8 (k + 1) (j + 2) (by omega) (by omega) (by rw [← he]; (conv => rhs; rw [tt_sp]); simp [tt_nx, c_13, Nat.not_le.mpr c_13, eq_true c_28, c_48]) _ _ (hP.sub (ws' := [(a, .inr (1, [.ref r, .int (nI n)])), (r, .inl (cB, 16384, .inl f))]) [0, 1] rfl) hS ls (lv_sub hl [3, 4, 5, 1, 0] rfl)
          · skip
            refine lv_iload hx hb d_ME_partOfString_51 (lv_at hl 0 rfl) ?_
            have o_r : (tt_esc (tt_ch f n (j + 1))) = (tt_sp f n (y - 1) i 0 (x + 1)) := by rw [← he, tt_sp]; simp [tt_cv, c_13, Nat.not_le.mpr c_13, eq_true c_28, eq_true c_48] <;> (intros; omega)
            exact W.iret (v := tt_esc (tt_ch f n (j + 1))) hx hb hr (fun t ht hW => ⟨⟨_, (), rfl, o_r, trivial⟩, hS.F ht⟩) hS.2.2 d_ME_partOfString_53
  exact cut_8 _ 0 (x + 1) (Nat.lt_succ_self _) (by omega) (by rfl) _ _ (hP.sub (ws' := [(a, .inr (1, [.ref r, .int (nI n)])), (r, .inl (cB, 16384, .inl f))]) [0, 1] rfl) hS ls (lv_sub hl [2, 4, 5, 1, 0] rfl)
abbrev rm_ME_partOfBytes : Room := { frames := 1, cells := 0, slots := 0, locals := 21 }
abbrev q_ME_partOfBytes (D : va_G) (cI cB cL : ClassId) (a r : Nat) (f : Nat → Int32) (n : Nat) (x y : Nat) (i : Int32) : Array Value → State → Outcome → State → Prop := va_Qi (fun r9 (_ : Unit) => r9 = (tt_pb f n x y i)) (fun _ _ => True) (fun _ => False)
set_option maxHeartbeats 4000000 in
set_option maxRecDepth 100000 in
theorem c_ME_partOfBytes (l : Launch) (D : va_G) (cI cB cL : ClassId) (a r : Nat) (f : Nat → Int32) (n : Nat) (x y : Nat) (i : Int32) (hn : n ≤ 16384) (hxy : x + 2 ≤ y) (hy : y < 1073741824) : Met l y_ME_partOfBytes w_ME_partOfBytes rm_ME_partOfBytes (va_Pc [.ref a, .int (nI x), .int (nI y), .int i] (fun U => va_P D vwCl [(a, .inr (1, [.ref r, .int (nI n)])), (r, .inl (cB, 16384, .inl f))] U.heap ∧ va_K D vwCl (tt_ty cI cB cL) U)) (q_ME_partOfBytes D cI cB cL a r f n x y i) 0 0 (fun _ => False) := by
  refine Met.ofW (cc := b_ME_partOfBytes) (maxL := 7) (ret := (some .int)) (by decide) rfl ?_
  intro p e s m args below meth c s₁ B hml hv
  obtain ⟨rfl, hP, hK⟩ := hv
  have hx := B.exec
  have hb := B.bytes
  have hr := B.returns
  have hts := atoms_spec (ws := w_ME_partOfBytes) B.pre
  have htT : ∀ w ∈ tt_T, w.before _ s = true := fun w h => hts w (List.mem_cons_of_mem _ h)
  have hown : s.vm.findClass R_ME = some m.cls := findClass_of_methodNamed B.named
  have hlocks := B.notSynchronized
  have hS : va_S (fun _ => False) s.heap s.heap [] := va_S.rf
  have hl := lv_entry ([.ref a, .int (nI x), .int (nI y), .int i]) (n := 7) (Nat.le_of_ble_eq_true rfl)
  rw [lg_entry_eq]
  generalize (lg_sl ([.ref a, .int (nI x), .int (nI y), .int i]) ++ List.replicate (7 - (lg_sl ([.ref a, .int (nI x), .int (nI y), .int i])).length) Slot.unset).toArray = ls at hl ⊢
  have hl : lv_has ls 7 [(0, .ref a), (1, .int (nI x)), (2, .int (nI y)), (3, .int i)] := hl
  have hP : va_P D vwCl [(a, .inr (1, [.ref r, .int (nI n)])), (r, .inl (cB, 16384, .inl f))] s.heap := hP
  refine lv_iload_n hx hb d_ME_partOfBytes_0 rfl (lv_at hl 3 rfl) ?_
  refine lv_if_lt (tgt := 13) hx hb d_ME_partOfBytes_1 (by decide) (fun c_1 => ?_) (fun c_1 => ?_)
  · skip
    refine lv_iconst (v := (-1)) hx hb d_ME_partOfBytes_13 (by decide) ?_
    have o_r : ((-1) : Int32) = (tt_pb f n x y i) := by simp [tt_pb, c_1]
    exact W.iret (v := (-1)) hx hb hr (fun t ht hW => ⟨⟨_, (), rfl, o_r, trivial⟩, hS.F ht⟩) hS.2.2 d_ME_partOfBytes_14
  · skip
    refine lv_iload_n hx hb d_ME_partOfBytes_4 rfl (lv_at hl 3 rfl) ?_
    refine lv_iload_n hx hb d_ME_partOfBytes_5 rfl (lv_at hl 1 rfl) ?_
    refine lv_iload_n hx hb d_ME_partOfBytes_6 rfl (lv_at hl 2 rfl) ?_
    refine tt_roI (va_runS (As := [.int (nI x), .int (nI y)]) (rest := [.int i]) ⟨hx, hb, hml, hown, hts⟩ (c_ME_lengthOfBytes l D cI cB cL x y (by omega) (by omega)) (cwS 2 hts (tt_gS k_518 k_504 k_22 k_505) rfl rfl rfl hv_ME_lengthOfBytes ⟨Nat.le_of_ble_eq_true rfl, Nat.le_of_ble_eq_true rfl⟩) (tt_ropreS (w := []) hK hP [] rfl) rfl rfl hl.1 rfl (lv_room (Nat.le_of_ble_eq_true rfl)) d_ME_partOfBytes_7 ⟨Nat.zero_le _, Nat.zero_le _⟩) hS hP (fun H locs hP hS => ?_)
    refine lv_icmp_lt (tgt := 15) hx hb d_ME_partOfBytes_10 (by decide) (fun c_10 => ?_) (fun c_10 => ?_)
    · skip
      have hlt := tt_ltr2 c_1 c_10 (by omega)
      refine lv_iload_n hx hb d_ME_partOfBytes_15 rfl (lv_at hl 1 rfl) ?_
      refine lv_iconst (v := 2) hx hb d_ME_partOfBytes_16 (by decide) ?_
      refine lv_iadd hx hb d_ME_partOfBytes_17 ?_
      refine tt_ti (show (nI x) + 2 = nI (x + 2) from nI_add x 2) ?_
      refine lv_iconst (v := 2) hx hb d_ME_partOfBytes_18 (by decide) ?_
      refine lv_iload_n hx hb d_ME_partOfBytes_19 rfl (lv_at hl 3 rfl) ?_
      refine lv_imul hx hb d_ME_partOfBytes_20 ?_
      refine tt_ti (show 2 * i = nI (2 * i.toNatClampNeg) from tt_mul2 c_1) ?_
      refine lv_iadd hx hb d_ME_partOfBytes_21 ?_
      refine tt_ti (show (nI (x + 2)) + (nI (2 * i.toNatClampNeg)) = nI (x + 2 + (2 * i.toNatClampNeg)) from nI_add (x + 2) (2 * i.toNatClampNeg)) ?_
      refine lv_istore (lv' := [(4, .int (nI (x + 2 + (2 * i.toNatClampNeg)))), (0, .ref a), (1, .int (nI x)), (2, .int (nI y)), (3, .int i)]) hx hb d_ME_partOfBytes_22 hl (by decide) rfl (fun ls hl => ?_)
      refine lv_aload_n hx hb d_ME_partOfBytes_24 rfl (lv_at hl 1 rfl) ?_
      refine lv_iload hx hb d_ME_partOfBytes_25 (lv_at hl 0 rfl) ?_
      refine tt_roI (va_runV (As := [.int (nI (x + 2 + (2 * i.toNatClampNeg)))]) (rest := []) ⟨hx, hb, hml, hown, hts⟩ (c_BY_at l D cI cB cL a r f n (x + 2 + (2 * i.toNatClampNeg)) (by omega) (by omega)) (cwV 1 hts (tt_gV k_502 k_174 k_175 k_2 k_176) rfl rfl rfl hv_BY_at ⟨Nat.le_of_ble_eq_true rfl, Nat.le_of_ble_eq_true rfl⟩) (tt_ropreV (w := [(a, .inr (1, [.ref r, .int (nI n)])), (r, .inl (cB, 16384, .inl f))]) hK hP [0, 1] rfl (va_recv hK hP (ci := 1) (q0 := 0) rfl rfl)) rfl rfl hl.1 rfl (lv_room (Nat.le_of_ble_eq_true rfl)) d_ME_partOfBytes_27 ⟨Nat.zero_le _, Nat.zero_le _⟩) hS hP (fun H locs hP hS => ?_)
      refine tt_roI (va_runS (As := [.int (tt_ch f n (x + 2 + (2 * i.toNatClampNeg)))]) (rest := []) ⟨hx, hb, hml, hown, hts⟩ (c_CH_hexValue l D cI cB cL (tt_ch f n (x + 2 + (2 * i.toNatClampNeg)))) (va_cwS 1 hts (tt_gS2 k_519 k_229 k_14 k_230) rfl rfl rfl hv_CH_hexValue.2 ⟨Nat.le_of_ble_eq_true rfl, Nat.le_of_ble_eq_true rfl⟩) (tt_ropreS (w := []) hK hP [] rfl) rfl rfl hl.1 rfl (lv_room (Nat.le_of_ble_eq_true rfl)) d_ME_partOfBytes_30 ⟨Nat.zero_le _, Nat.zero_le _⟩) hS hP (fun H locs hP hS => ?_)
      refine lv_istore (lv' := [(5, .int (tt_hex (tt_ch f n (x + 2 + (2 * i.toNatClampNeg))))), (4, .int (nI (x + 2 + (2 * i.toNatClampNeg)))), (0, .ref a), (1, .int (nI x)), (2, .int (nI y)), (3, .int i)]) hx hb d_ME_partOfBytes_33 hl (by decide) rfl (fun ls hl => ?_)
      refine lv_aload_n hx hb d_ME_partOfBytes_35 rfl (lv_at hl 2 rfl) ?_
      refine lv_iload hx hb d_ME_partOfBytes_36 (lv_at hl 1 rfl) ?_
      refine lv_iconst (v := 1) hx hb d_ME_partOfBytes_38 (by decide) ?_
      refine lv_iadd hx hb d_ME_partOfBytes_39 ?_
      refine tt_ti (show (nI (x + 2 + (2 * i.toNatClampNeg))) + 1 = nI ((x + 2 + (2 * i.toNatClampNeg)) + 1) from nI_add (x + 2 + (2 * i.toNatClampNeg)) 1) ?_
      refine tt_roI (va_runV (As := [.int (nI ((x + 2 + (2 * i.toNatClampNeg)) + 1))]) (rest := []) ⟨hx, hb, hml, hown, hts⟩ (c_BY_at l D cI cB cL a r f n ((x + 2 + (2 * i.toNatClampNeg)) + 1) (by omega) (by omega)) (cwV 1 hts (tt_gV k_502 k_174 k_175 k_2 k_176) rfl rfl rfl hv_BY_at ⟨Nat.le_of_ble_eq_true rfl, Nat.le_of_ble_eq_true rfl⟩) (tt_ropreV (w := [(a, .inr (1, [.ref r, .int (nI n)])), (r, .inl (cB, 16384, .inl f))]) hK hP [0, 1] rfl (va_recv hK hP (ci := 1) (q0 := 0) rfl rfl)) rfl rfl hl.1 rfl (lv_room (Nat.le_of_ble_eq_true rfl)) d_ME_partOfBytes_40 ⟨Nat.zero_le _, Nat.zero_le _⟩) hS hP (fun H locs hP hS => ?_)
      refine tt_roI (va_runS (As := [.int (tt_ch f n ((x + 2 + (2 * i.toNatClampNeg)) + 1))]) (rest := []) ⟨hx, hb, hml, hown, hts⟩ (c_CH_hexValue l D cI cB cL (tt_ch f n ((x + 2 + (2 * i.toNatClampNeg)) + 1))) (va_cwS 1 hts (tt_gS2 k_519 k_229 k_14 k_230) rfl rfl rfl hv_CH_hexValue.2 ⟨Nat.le_of_ble_eq_true rfl, Nat.le_of_ble_eq_true rfl⟩) (tt_ropreS (w := []) hK hP [] rfl) rfl rfl hl.1 rfl (lv_room (Nat.le_of_ble_eq_true rfl)) d_ME_partOfBytes_43 ⟨Nat.zero_le _, Nat.zero_le _⟩) hS hP (fun H locs hP hS => ?_)
      refine lv_istore (lv' := [(6, .int (tt_hex (tt_ch f n ((x + 2 + (2 * i.toNatClampNeg)) + 1)))), (5, .int (tt_hex (tt_ch f n (x + 2 + (2 * i.toNatClampNeg))))), (4, .int (nI (x + 2 + (2 * i.toNatClampNeg)))), (0, .ref a), (1, .int (nI x)), (2, .int (nI y)), (3, .int i)]) hx hb d_ME_partOfBytes_46 hl (by decide) rfl (fun ls hl => ?_)
      refine lv_iload hx hb d_ME_partOfBytes_48 (lv_at hl 1 rfl) ?_
      refine lv_bipush (v := 16) hx hb d_ME_partOfBytes_50 (by decide) ?_
      refine lv_imul hx hb d_ME_partOfBytes_52 ?_
      refine lv_iload hx hb d_ME_partOfBytes_53 (lv_at hl 0 rfl) ?_
      refine lv_iadd hx hb d_ME_partOfBytes_55 ?_
      have o_r : (((tt_hex (tt_ch f n (x + 2 + (2 * i.toNatClampNeg)))) * 16) + (tt_hex (tt_ch f n ((x + 2 + (2 * i.toNatClampNeg)) + 1)))) = (tt_pb f n x y i) := by simp [tt_pb, c_1, c_10]
      exact W.iret (v := ((tt_hex (tt_ch f n (x + 2 + (2 * i.toNatClampNeg)))) * 16) + (tt_hex (tt_ch f n ((x + 2 + (2 * i.toNatClampNeg)) + 1)))) hx hb hr (fun t ht hW => ⟨⟨_, (), rfl, o_r, trivial⟩, hS.F ht⟩) hS.2.2 d_ME_partOfBytes_56
    · skip
      refine lv_iconst (v := (-1)) hx hb d_ME_partOfBytes_13 (by decide) ?_
      have o_r : ((-1) : Int32) = (tt_pb f n x y i) := by simp [tt_pb, c_1, c_10]
      exact W.iret (v := (-1)) hx hb hr (fun t ht hW => ⟨⟨_, (), rfl, o_r, trivial⟩, hS.F ht⟩) hS.2.2 d_ME_partOfBytes_14
