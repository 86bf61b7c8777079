abbrev rm_MO_thrown : Room := { frames := 0, cells := 0, slots := 0, locals := 0 }
abbrev q_MO_thrown (D : va_G) (cI cB cL : ClassId) (am : Nat → Nat) (ft : Int32) (cn tn mc : Nat) (pl tk : Int32) (fr tj dn : Nat) : Array Value → State → Outcome → State → Prop := va_Qi (fun r9 (_ : Unit) => r9 = ft) (fun _ _ => True) (fun _ => False)
set_option maxHeartbeats 4000000 in
set_option maxRecDepth 100000 in
theorem c_MO_thrown (l : Launch) (D : va_G) (cI cB cL : ClassId) (am : Nat → Nat) (ft : Int32) (cn tn mc : Nat) (pl tk : Int32) (fr tj dn : Nat) : Met l y_MO_thrown w_MO_thrown rm_MO_thrown (va_Pc [.ref (am 0)] (fun U => va_P D vwCl [(am 0, .inr (6, [.int ft, .ref (am 1), .int (nI cn), .ref (am 2), .int (nI tn), .ref (am 3), .ref (am 4), .ref (am 5), .ref (am 6), .ref (am 7), .ref (am 8), .int (nI mc), .int pl, .int tk, .int (nI fr), .int (nI tj), .ref (am 9), .int (nI dn)]))] U.heap ∧ va_K D vwCl (tt_ty cI cB cL) U)) (q_MO_thrown D cI cB cL am ft cn tn mc pl tk fr tj dn) 0 0 (fun _ => False) := by
  refine Met.ofW (cc := b_MO_thrown) (maxL := 1) (ret := (some .int)) (by decide) rfl ?_
  intro p e s m args below meth c s₁ B hml hv
  obtain ⟨rfl, hP, hK⟩ := hv
  have hx := B.exec
  have hb := B.bytes
  have hr := B.returns
  have hts := atoms_spec (ws := w_MO_thrown) B.pre
  have htT : ∀ w ∈ tt_T, w.before _ s = true := fun w h => hts w (List.mem_cons_of_mem _ h)
  have hown : s.vm.findClass R_MO = some m.cls := findClass_of_methodNamed B.named
  have hlocks := B.notSynchronized
  have hS : va_S (fun _ => False) s.heap s.heap [] := va_S.rf
  have hl := lv_entry ([.ref (am 0)]) (n := 1) (Nat.le_of_ble_eq_true rfl)
  rw [lg_entry_eq]
  generalize (lg_sl ([.ref (am 0)]) ++ List.replicate (1 - (lg_sl ([.ref (am 0)])).length) Slot.unset).toArray = ls at hl ⊢
  have hl : lv_has ls 1 [(0, .ref (am 0))] := hl
  have hP : va_P D vwCl [(am 0, .inr (6, [.int ft, .ref (am 1), .int (nI cn), .ref (am 2), .int (nI tn), .ref (am 3), .ref (am 4), .ref (am 5), .ref (am 6), .ref (am 7), .ref (am 8), .int (nI mc), .int pl, .int tk, .int (nI fr), .int (nI tj), .ref (am 9), .int (nI dn)]))] s.heap := hP
  refine lv_aload_n hx hb d_MO_thrown_0 rfl (lv_at hl 0 rfl) ?_
  refine va_get (D := D) (ci := 6) (v := .int ft) (C := R_MO) (T := F_MO) (N := 18) hx hb htT i_MO hown hK hP 0 rfl rfl 0 (by decide) (htT _ k_635) (fun _ h9 => h9) rfl d_MO_thrown_1 ?_
  have o_r : ft = ft := rfl
  exact W.iret (v := ft) hx hb hr (fun t ht hW => ⟨⟨_, (), rfl, o_r, trivial⟩, hS.F ht⟩) hS.2.2 d_MO_thrown_4
abbrev rm_MO_take : Room := { frames := 0, cells := 0, slots := 0, locals := 0 }
abbrev q_MO_take (D : va_G) (cI cB cL : ClassId) (am : Nat → Nat) (ft : Int32) (cn tn mc : Nat) (pl tk : Int32) (fr tj dn : Nat) (g : Nat → Int32) (v : Int32) (A : Nat → Prop) : Array Value → State → Outcome → State → Prop := va_Qv (fun _ => True) (fun (_ : Unit) t => va_P D vwCl [(am 0, .inr (6, [.int ft, .ref (am 1), .int (nI (cn + 4)), .ref (am 2), .int (nI tn), .ref (am 3), .ref (am 4), .ref (am 5), .ref (am 6), .ref (am 7), .ref (am 8), .int (nI mc), .int pl, .int tk, .int (nI fr), .int (nI tj), .ref (am 9), .int (nI dn)])), (am 1, .inl (cB, 16384, .inl (tm_f4 g cn v)))] t.heap ∧ va_D A [(am 0, .inr (6, [.int ft, .ref (am 1), .int (nI (cn + 4)), .ref (am 2), .int (nI tn), .ref (am 3), .ref (am 4), .ref (am 5), .ref (am 6), .ref (am 7), .ref (am 8), .int (nI mc), .int pl, .int tk, .int (nI fr), .int (nI tj), .ref (am 9), .int (nI dn)])), (am 1, .inl (cB, 16384, .inl (tm_f4 g cn v)))]) A
set_option maxHeartbeats 4000000 in
set_option maxRecDepth 100000 in
theorem c_MO_take (l : Launch) (D : va_G) (cI cB cL : ClassId) (am : Nat → Nat) (ft : Int32) (cn tn mc : Nat) (pl tk : Int32) (fr tj dn : Nat) (g : Nat → Int32) (v : Int32) (hn : cn + 4 ≤ 16384) (sz : Nat) : Met l y_MO_take w_MO_take rm_MO_take (va_Pc [.ref (am 0), .int v] (fun U => U.heap.size = sz ∧ va_P D vwCl [(am 0, .inr (6, [.int ft, .ref (am 1), .int (nI cn), .ref (am 2), .int (nI tn), .ref (am 3), .ref (am 4), .ref (am 5), .ref (am 6), .ref (am 7), .ref (am 8), .int (nI mc), .int pl, .int tk, .int (nI fr), .int (nI tj), .ref (am 9), .int (nI dn)])), (am 1, .inl (cB, 16384, .inl g))] U.heap ∧ va_K D vwCl (tt_ty cI cB cL) U ∧ va_D (fun _ => True) [(am 0, .inr (6, [.int ft, .ref (am 1), .int (nI cn), .ref (am 2), .int (nI tn), .ref (am 3), .ref (am 4), .ref (am 5), .ref (am 6), .ref (am 7), .ref (am 8), .int (nI mc), .int pl, .int tk, .int (nI fr), .int (nI tj), .ref (am 9), .int (nI dn)])), (am 1, .inl (cB, 16384, .inl g))])) (q_MO_take D cI cB cL am ft cn tn mc pl tk fr tj dn g v (va_A [(am 0, .inr (6, [.int ft, .ref (am 1), .int (nI cn), .ref (am 2), .int (nI tn), .ref (am 3), .ref (am 4), .ref (am 5), .ref (am 6), .ref (am 7), .ref (am 8), .int (nI mc), .int pl, .int tk, .int (nI fr), .int (nI tj), .ref (am 9), .int (nI dn)])), (am 1, .inl (cB, 16384, .inl g))] sz)) 0 0 (va_A [(am 0, .inr (6, [.int ft, .ref (am 1), .int (nI cn), .ref (am 2), .int (nI tn), .ref (am 3), .ref (am 4), .ref (am 5), .ref (am 6), .ref (am 7), .ref (am 8), .int (nI mc), .int pl, .int tk, .int (nI fr), .int (nI tj), .ref (am 9), .int (nI dn)])), (am 1, .inl (cB, 16384, .inl g))] sz) := by
  refine Met.ofW (cc := b_MO_take) (maxL := 3) (ret := none) (by decide) rfl ?_
  intro p e s m args below meth c s₁ B hml hv
  obtain ⟨rfl, hsz, hP, hK, hD0⟩ := hv
  have hx := B.exec
  have hb := B.bytes
  have hr := B.returns
  have hts := atoms_spec (ws := w_MO_take) B.pre
  have htT : ∀ w ∈ tt_T, w.before _ s = true := fun w h => hts w (List.mem_cons_of_mem _ h)
  have hown : s.vm.findClass R_MO = some m.cls := findClass_of_methodNamed B.named
  have hlocks := B.notSynchronized
  subst hsz
  have hD := hD0.self (sz := s.heap.size)
  generalize hAe : va_A [(am 0, .inr (6, [.int ft, .ref (am 1), .int (nI cn), .ref (am 2), .int (nI tn), .ref (am 3), .ref (am 4), .ref (am 5), .ref (am 6), .ref (am 7), .ref (am 8), .int (nI mc), .int pl, .int tk, .int (nI fr), .int (nI tj), .ref (am 9), .int (nI dn)])), (am 1, .inl (cB, 16384, .inl g))] s.heap.size = A at hD ⊢
  have hA : ∀ q : Nat, s.heap.size ≤ q → A q := fun q h => by rw [← hAe]; exact Or.inr h
  have hS : va_S A s.heap s.heap [] := va_S.rf
  have hl := lv_entry ([.ref (am 0), .int v]) (n := 3) (Nat.le_of_ble_eq_true rfl)
  rw [lg_entry_eq]
  generalize (lg_sl ([.ref (am 0), .int v]) ++ List.replicate (3 - (lg_sl ([.ref (am 0), .int v])).length) Slot.unset).toArray = ls at hl ⊢
  have hl : lv_has ls 3 [(0, .ref (am 0)), (1, .int v)] := hl
  have hP : va_P D vwCl [(am 0, .inr (6, [.int ft, .ref (am 1), .int (nI cn), .ref (am 2), .int (nI tn), .ref (am 3), .ref (am 4), .ref (am 5), .ref (am 6), .ref (am 7), .ref (am 8), .int (nI mc), .int pl, .int tk, .int (nI fr), .int (nI tj), .ref (am 9), .int (nI dn)])), (am 1, .inl (cB, 16384, .inl g))] s.heap := hP
  refine lv_bipush (v := 24) hx hb d_MO_take_0 (by decide) ?_
  refine lv_istore_n (lv' := [(2, .int 24), (0, .ref (am 0)), (1, .int v)]) hx hb d_MO_take_2 rfl hl (by decide) rfl (fun ls hl => ?_)
  refine lv_iload_n hx hb d_MO_take_3 rfl (lv_at hl 0 rfl) ?_
  refine lv_if_lt (tgt := 36) hx hb d_MO_take_4 (by decide) (fun c_4 => ?_) (fun c_4 => ?_)
  · exact absurd c_4 (by decide)
  · skip
    refine lv_aload_n hx hb d_MO_take_7 rfl (lv_at hl 1 rfl) ?_
    refine va_get (D := D) (ci := 6) (v := .ref (am 1)) (C := R_MO) (T := F_MO) (N := 18) hx hb htT i_MO hown hK hP 0 rfl rfl 1 (by decide) (htT _ k_636) (fun _ h9 => h9) rfl d_MO_take_8 ?_
    refine lv_aload_n hx hb d_MO_take_11 rfl (lv_at hl 1 rfl) ?_
    refine va_get (D := D) (ci := 6) (v := .int (nI cn)) (C := R_MO) (T := F_MO) (N := 18) hx hb htT i_MO hown hK hP 0 rfl rfl 2 (by decide) (htT _ k_637) (fun _ h9 => h9) rfl d_MO_take_12 ?_
    refine lv_iload_n hx hb d_MO_take_15 rfl (lv_at hl 2 rfl) ?_
    refine lv_iload_n hx hb d_MO_take_16 rfl (lv_at hl 0 rfl) ?_
    refine lv_ishr hx hb d_MO_take_17 ?_
    refine lv_i2b (v := (v >>> (24 &&& 31)).toInt8.toInt32) hx hb d_MO_take_18 rfl ?_
    refine va_bast (D := D) hx hb hK hP hD hS 1 1 rfl rfl (vp_in_nI (by omega) (by omega)) d_MO_take_19 (fun H locs hP hD hS => ?_)
    rw [nI_clamp (show cn < 2 ^ 31 by omega), pk_vb] at hP hD
    have hP : va_P D vwCl [(am 0, .inr (6, [.int ft, .ref (am 1), .int (nI cn), .ref (am 2), .int (nI tn), .ref (am 3), .ref (am 4), .ref (am 5), .ref (am 6), .ref (am 7), .ref (am 8), .int (nI mc), .int pl, .int tk, .int (nI fr), .int (nI tj), .ref (am 9), .int (nI dn)])), (am 1, .inl (cB, 16384, .inl (upd g cn ((v >>> (24 &&& 31)).toInt8.toInt32))))] H := hP
    have hD : va_D A [(am 0, .inr (6, [.int ft, .ref (am 1), .int (nI cn), .ref (am 2), .int (nI tn), .ref (am 3), .ref (am 4), .ref (am 5), .ref (am 6), .ref (am 7), .ref (am 8), .int (nI mc), .int pl, .int tk, .int (nI fr), .int (nI tj), .ref (am 9), .int (nI dn)])), (am 1, .inl (cB, 16384, .inl (upd g cn ((v >>> (24 &&& 31)).toInt8.toInt32))))] := hD
    refine lv_aload_n hx hb d_MO_take_20 rfl (lv_at hl 1 rfl) ?_
    refine lv_dup hx hb d_MO_take_21 rfl ?_
    refine va_get (D := D) (ci := 6) (v := .int (nI cn)) (C := R_MO) (T := F_MO) (N := 18) hx hb htT i_MO hown hK hP 0 rfl rfl 2 (by decide) (htT _ k_637) (fun _ h9 => h9) rfl d_MO_take_22 ?_
    refine lv_iconst (v := 1) hx hb d_MO_take_25 (by decide) ?_
    refine lv_iadd hx hb d_MO_take_26 ?_
    refine tt_ti (show (nI cn) + 1 = nI (cn + 1) from nI_add cn 1) ?_
    refine va_put (D := D) (ci := 6) (v := .int (nI (cn + 1))) (ty := .int) (C := R_MO) (T := F_MO) (N := 18) hx hb htT i_MO t_MO t_MO_ok n_MO hown hK hP hD hS 0 rfl rfl 2 (by decide) (htT _ k_637) (fun _ h9 => h9) rfl (by decide +kernel) rfl rfl (Nat.le_of_ble_eq_true rfl) d_MO_take_27 (fun H locs hP hD hS => ?_)
    have hP : va_P D vwCl [(am 0, .inr (6, [.int ft, .ref (am 1), .int (nI (cn + 1)), .ref (am 2), .int (nI tn), .ref (am 3), .ref (am 4), .ref (am 5), .ref (am 6), .ref (am 7), .ref (am 8), .int (nI mc), .int pl, .int tk, .int (nI fr), .int (nI tj), .ref (am 9), .int (nI dn)])), (am 1, .inl (cB, 16384, .inl (upd g cn ((v >>> (24 &&& 31)).toInt8.toInt32))))] H := hP
    have hD : va_D A [(am 0, .inr (6, [.int ft, .ref (am 1), .int (nI (cn + 1)), .ref (am 2), .int (nI tn), .ref (am 3), .ref (am 4), .ref (am 5), .ref (am 6), .ref (am 7), .ref (am 8), .int (nI mc), .int pl, .int tk, .int (nI fr), .int (nI tj), .ref (am 9), .int (nI dn)])), (am 1, .inl (cB, 16384, .inl (upd g cn ((v >>> (24 &&& 31)).toInt8.toInt32))))] := hD
    refine lv_iinc (v := 16) (lv' := [(2, .int 16), (0, .ref (am 0)), (1, .int v)]) hx hb d_MO_take_30 hl (k := 0) rfl (by decide) (by decide) rfl (fun ls hl => ?_)
    refine lv_goto (tgt := 3) hx hb d_MO_take_33 (by decide) ?_
    refine lv_iload_n hx hb d_MO_take_3 rfl (lv_at hl 0 rfl) ?_
    refine lv_if_lt (tgt := 36) hx hb d_MO_take_4 (by decide) (fun c_4 => ?_) (fun c_4 => ?_)
    · exact absurd c_4 (by decide)
    · skip
      refine lv_aload_n hx hb d_MO_take_7 rfl (lv_at hl 1 rfl) ?_
      refine va_get (D := D) (ci := 6) (v := .ref (am 1)) (C := R_MO) (T := F_MO) (N := 18) hx hb htT i_MO hown hK hP 0 rfl rfl 1 (by decide) (htT _ k_636) (fun _ h9 => h9) rfl d_MO_take_8 ?_
      refine lv_aload_n hx hb d_MO_take_11 rfl (lv_at hl 1 rfl) ?_
      refine va_get (D := D) (ci := 6) (v := .int (nI (cn + 1))) (C := R_MO) (T := F_MO) (N := 18) hx hb htT i_MO hown hK hP 0 rfl rfl 2 (by decide) (htT _ k_637) (fun _ h9 => h9) rfl d_MO_take_12 ?_
      refine lv_iload_n hx hb d_MO_take_15 rfl (lv_at hl 2 rfl) ?_
      refine lv_iload_n hx hb d_MO_take_16 rfl (lv_at hl 0 rfl) ?_
      refine lv_ishr hx hb d_MO_take_17 ?_
      refine lv_i2b (v := (v >>> (16 &&& 31)).toInt8.toInt32) hx hb d_MO_take_18 rfl ?_
      refine va_bast (D := D) hx hb hK hP hD hS 1 1 rfl rfl (vp_in_nI (by omega) (by omega)) d_MO_take_19 (fun H locs hP hD hS => ?_)
      rw [nI_clamp (show cn + 1 < 2 ^ 31 by omega), pk_vb] at hP hD
      have hP : va_P D vwCl [(am 0, .inr (6, [.int ft, .ref (am 1), .int (nI (cn + 1)), .ref (am 2), .int (nI tn), .ref (am 3), .ref (am 4), .ref (am 5), .ref (am 6), .ref (am 7), .ref (am 8), .int (nI mc), .int pl, .int tk, .int (nI fr), .int (nI tj), .ref (am 9), .int (nI dn)])), (am 1, .inl (cB, 16384, .inl (upd (upd g cn ((v >>> (24 &&& 31)).toInt8.toInt32)) (cn + 1) ((v >>> (16 &&& 31)).toInt8.toInt32))))] H := hP
      have hD : va_D A [(am 0, .inr (6, [.int ft, .ref (am 1), .int (nI (cn + 1)), .ref (am 2), .int (nI tn), .ref (am 3), .ref (am 4), .ref (am 5), .ref (am 6), .ref (am 7), .ref (am 8), .int (nI mc), .int pl, .int tk, .int (nI fr), .int (nI tj), .ref (am 9), .int (nI dn)])), (am 1, .inl (cB, 16384, .inl (upd (upd g cn ((v >>> (24 &&& 31)).toInt8.toInt32)) (cn + 1) ((v >>> (16 &&& 31)).toInt8.toInt32))))] := hD
      refine lv_aload_n hx hb d_MO_take_20 rfl (lv_at hl 1 rfl) ?_
      refine lv_dup hx hb d_MO_take_21 rfl ?_
      refine va_get (D := D) (ci := 6) (v := .int (nI (cn + 1))) (C := R_MO) (T := F_MO) (N := 18) hx hb htT i_MO hown hK hP 0 rfl rfl 2 (by decide) (htT _ k_637) (fun _ h9 => h9) rfl d_MO_take_22 ?_
      refine lv_iconst (v := 1) hx hb d_MO_take_25 (by decide) ?_
      refine lv_iadd hx hb d_MO_take_26 ?_
      refine tt_ti (show (nI (cn + 1)) + 1 = nI (cn + 2) from nI_add (cn + 1) 1) ?_
      refine va_put (D := D) (ci := 6) (v := .int (nI (cn + 2))) (ty := .int) (C := R_MO) (T := F_MO) (N := 18) hx hb htT i_MO t_MO t_MO_ok n_MO hown hK hP hD hS 0 rfl rfl 2 (by decide) (htT _ k_637) (fun _ h9 => h9) rfl (by decide +kernel) rfl rfl (Nat.le_of_ble_eq_true rfl) d_MO_take_27 (fun H locs hP hD hS => ?_)
      have hP : va_P D vwCl [(am 0, .inr (6, [.int ft, .ref (am 1), .int (nI (cn + 2)), .ref (am 2), .int (nI tn), .ref (am 3), .ref (am 4), .ref (am 5), .ref (am 6), .ref (am 7), .ref (am 8), .int (nI mc), .int pl, .int tk, .int (nI fr), .int (nI tj), .ref (am 9), .int (nI dn)])), (am 1, .inl (cB, 16384, .inl (upd (upd g cn ((v >>> (24 &&& 31)).toInt8.toInt32)) (cn + 1) ((v >>> (16 &&& 31)).toInt8.toInt32))))] H := hP
      have hD : va_D A [(am 0, .inr (6, [.int ft, .ref (am 1), .int (nI (cn + 2)), .ref (am 2), .int (nI tn), .ref (am 3), .ref (am 4), .ref (am 5), .ref (am 6), .ref (am 7), .ref (am 8), .int (nI mc), .int pl, .int tk, .int (nI fr), .int (nI tj), .ref (am 9), .int (nI dn)])), (am 1, .inl (cB, 16384, .inl (upd (upd g cn ((v >>> (24 &&& 31)).toInt8.toInt32)) (cn + 1) ((v >>> (16 &&& 31)).toInt8.toInt32))))] := hD
      refine lv_iinc (v := 8) (lv' := [(2, .int 8), (0, .ref (am 0)), (1, .int v)]) hx hb d_MO_take_30 hl (k := 0) rfl (by decide) (by decide) rfl (fun ls hl => ?_)
      refine lv_goto (tgt := 3) hx hb d_MO_take_33 (by decide) ?_
      refine lv_iload_n hx hb d_MO_take_3 rfl (lv_at hl 0 rfl) ?_
      refine lv_if_lt (tgt := 36) hx hb d_MO_take_4 (by decide) (fun c_4 => ?_) (fun c_4 => ?_)
      · exact absurd c_4 (by decide)
      · skip
        refine lv_aload_n hx hb d_MO_take_7 rfl (lv_at hl 1 rfl) ?_
        refine va_get (D := D) (ci := 6) (v := .ref (am 1)) (C := R_MO) (T := F_MO) (N := 18) hx hb htT i_MO hown hK hP 0 rfl rfl 1 (by decide) (htT _ k_636) (fun _ h9 => h9) rfl d_MO_take_8 ?_
        refine lv_aload_n hx hb d_MO_take_11 rfl (lv_at hl 1 rfl) ?_
        refine va_get (D := D) (ci := 6) (v := .int (nI (cn + 2))) (C := R_MO) (T := F_MO) (N := 18) hx hb htT i_MO hown hK hP 0 rfl rfl 2 (by decide) (htT _ k_637) (fun _ h9 => h9) rfl d_MO_take_12 ?_
        refine lv_iload_n hx hb d_MO_take_15 rfl (lv_at hl 2 rfl) ?_
        refine lv_iload_n hx hb d_MO_take_16 rfl (lv_at hl 0 rfl) ?_
        refine lv_ishr hx hb d_MO_take_17 ?_
        refine lv_i2b (v := (v >>> (8 &&& 31)).toInt8.toInt32) hx hb d_MO_take_18 rfl ?_
        refine va_bast (D := D) hx hb hK hP hD hS 1 1 rfl rfl (vp_in_nI (by omega) (by omega)) d_MO_take_19 (fun H locs hP hD hS => ?_)
        rw [nI_clamp (show cn + 2 < 2 ^ 31 by omega), pk_vb] at hP hD
        have hP : va_P D vwCl [(am 0, .inr (6, [.int ft, .ref (am 1), .int (nI (cn + 2)), .ref (am 2), .int (nI tn), .ref (am 3), .ref (am 4), .ref (am 5), .ref (am 6), .ref (am 7), .ref (am 8), .int (nI mc), .int pl, .int tk, .int (nI fr), .int (nI tj), .ref (am 9), .int (nI dn)])), (am 1, .inl (cB, 16384, .inl (upd (upd (upd g cn ((v >>> (24 &&& 31)).toInt8.toInt32)) (cn + 1) ((v >>> (16 &&& 31)).toInt8.toInt32)) (cn + 2) ((v >>> (8 &&& 31)).toInt8.toInt32))))] H := hP
        have hD : va_D A [(am 0, .inr (6, [.int ft, .ref (am 1), .int (nI (cn + 2)), .ref (am 2), .int (nI tn), .ref (am 3), .ref (am 4), .ref (am 5), .ref (am 6), .ref (am 7), .ref (am 8), .int (nI mc), .int pl, .int tk, .int (nI fr), .int (nI tj), .ref (am 9), .int (nI dn)])), (am 1, .inl (cB, 16384, .inl (upd (upd (upd g cn ((v >>> (24 &&& 31)).toInt8.toInt32)) (cn + 1) ((v >>> (16 &&& 31)).toInt8.toInt32)) (cn + 2) ((v >>> (8 &&& 31)).toInt8.toInt32))))] := hD
        refine lv_aload_n hx hb d_MO_take_20 rfl (lv_at hl 1 rfl) ?_
        refine lv_dup hx hb d_MO_take_21 rfl ?_
        refine va_get (D := D) (ci := 6) (v := .int (nI (cn + 2))) (C := R_MO) (T := F_MO) (N := 18) hx hb htT i_MO hown hK hP 0 rfl rfl 2 (by decide) (htT _ k_637) (fun _ h9 => h9) rfl d_MO_take_22 ?_
        refine lv_iconst (v := 1) hx hb d_MO_take_25 (by decide) ?_
        refine lv_iadd hx hb d_MO_take_26 ?_
        refine tt_ti (show (nI (cn + 2)) + 1 = nI (cn + 3) from nI_add (cn + 2) 1) ?_
        refine va_put (D := D) (ci := 6) (v := .int (nI (cn + 3))) (ty := .int) (C := R_MO) (T := F_MO) (N := 18) hx hb htT i_MO t_MO t_MO_ok n_MO hown hK hP hD hS 0 rfl rfl 2 (by decide) (htT _ k_637) (fun _ h9 => h9) rfl (by decide +kernel) rfl rfl (Nat.le_of_ble_eq_true rfl) d_MO_take_27 (fun H locs hP hD hS => ?_)
        have hP : va_P D vwCl [(am 0, .inr (6, [.int ft, .ref (am 1), .int (nI (cn + 3)), .ref (am 2), .int (nI tn), .ref (am 3), .ref (am 4), .ref (am 5), .ref (am 6), .ref (am 7), .ref (am 8), .int (nI mc), .int pl, .int tk, .int (nI fr), .int (nI tj), .ref (am 9), .int (nI dn)])), (am 1, .inl (cB, 16384, .inl (upd (upd (upd g cn ((v >>> (24 &&& 31)).toInt8.toInt32)) (cn + 1) ((v >>> (16 &&& 31)).toInt8.toInt32)) (cn + 2) ((v >>> (8 &&& 31)).toInt8.toInt32))))] H := hP
        have hD : va_D A [(am 0, .inr (6, [.int ft, .ref (am 1), .int (nI (cn + 3)), .ref (am 2), .int (nI tn), .ref (am 3), .ref (am 4), .ref (am 5), .ref (am 6), .ref (am 7), .ref (am 8), .int (nI mc), .int pl, .int tk, .int (nI fr), .int (nI tj), .ref (am 9), .int (nI dn)])), (am 1, .inl (cB, 16384, .inl (upd (upd (upd g cn ((v >>> (24 &&& 31)).toInt8.toInt32)) (cn + 1) ((v >>> (16 &&& 31)).toInt8.toInt32)) (cn + 2) ((v >>> (8 &&& 31)).toInt8.toInt32))))] := hD
        refine lv_iinc (v := 0) (lv' := [(2, .int 0), (0, .ref (am 0)), (1, .int v)]) hx hb d_MO_take_30 hl (k := 0) rfl (by decide) (by decide) rfl (fun ls hl => ?_)
        refine lv_goto (tgt := 3) hx hb d_MO_take_33 (by decide) ?_
        refine lv_iload_n hx hb d_MO_take_3 rfl (lv_at hl 0 rfl) ?_
        refine lv_if_lt (tgt := 36) hx hb d_MO_take_4 (by decide) (fun c_4 => ?_) (fun c_4 => ?_)
        · exact absurd c_4 (by decide)
        · skip
          refine lv_aload_n hx hb d_MO_take_7 rfl (lv_at hl 1 rfl) ?_
          refine va_get (D := D) (ci := 6) (v := .ref (am 1)) (C := R_MO) (T := F_MO) (N := 18) hx hb htT i_MO hown hK hP 0 rfl rfl 1 (by decide) (htT _ k_636) (fun _ h9 => h9) rfl d_MO_take_8 ?_
          refine lv_aload_n hx hb d_MO_take_11 rfl (lv_at hl 1 rfl) ?_
          refine va_get (D := D) (ci := 6) (v := .int (nI (cn + 3))) (C := R_MO) (T := F_MO) (N := 18) hx hb htT i_MO hown hK hP 0 rfl rfl 2 (by decide) (htT _ k_637) (fun _ h9 => h9) rfl d_MO_take_12 ?_
          refine lv_iload_n hx hb d_MO_take_15 rfl (lv_at hl 2 rfl) ?_
          refine lv_iload_n hx hb d_MO_take_16 rfl (lv_at hl 0 rfl) ?_
          refine lv_ishr hx hb d_MO_take_17 ?_
          refine lv_i2b (v := (v >>> (0 &&& 31)).toInt8.toInt32) hx hb d_MO_take_18 rfl ?_
          refine va_bast (D := D) hx hb hK hP hD hS 1 1 rfl rfl (vp_in_nI (by omega) (by omega)) d_MO_take_19 (fun H locs hP hD hS => ?_)
          rw [nI_clamp (show cn + 3 < 2 ^ 31 by omega), pk_vb] at hP hD
          have hP : va_P D vwCl [(am 0, .inr (6, [.int ft, .ref (am 1), .int (nI (cn + 3)), .ref (am 2), .int (nI tn), .ref (am 3), .ref (am 4), .ref (am 5), .ref (am 6), .ref (am 7), .ref (am 8), .int (nI mc), .int pl, .int tk, .int (nI fr), .int (nI tj), .ref (am 9), .int (nI dn)])), (am 1, .inl (cB, 16384, .inl (upd (upd (upd (upd g cn ((v >>> (24 &&& 31)).toInt8.toInt32)) (cn + 1) ((v >>> (16 &&& 31)).toInt8.toInt32)) (cn + 2) ((v >>> (8 &&& 31)).toInt8.toInt32)) (cn + 3) ((v >>> (0 &&& 31)).toInt8.toInt32))))] H := hP
          have hD : va_D A [(am 0, .inr (6, [.int ft, .ref (am 1), .int (nI (cn + 3)), .ref (am 2), .int (nI tn), .ref (am 3), .ref (am 4), .ref (am 5), .ref (am 6), .ref (am 7), .ref (am 8), .int (nI mc), .int pl, .int tk, .int (nI fr), .int (nI tj), .ref (am 9), .int (nI dn)])), (am 1, .inl (cB, 16384, .inl (upd (upd (upd (upd g cn ((v >>> (24 &&& 31)).toInt8.toInt32)) (cn + 1) ((v >>> (16 &&& 31)).toInt8.toInt32)) (cn + 2) ((v >>> (8 &&& 31)).toInt8.toInt32)) (cn + 3) ((v >>> (0 &&& 31)).toInt8.toInt32))))] := hD
          refine lv_aload_n hx hb d_MO_take_20 rfl (lv_at hl 1 rfl) ?_
          refine lv_dup hx hb d_MO_take_21 rfl ?_
          refine va_get (D := D) (ci := 6) (v := .int (nI (cn + 3))) (C := R_MO) (T := F_MO) (N := 18) hx hb htT i_MO hown hK hP 0 rfl rfl 2 (by decide) (htT _ k_637) (fun _ h9 => h9) rfl d_MO_take_22 ?_
          refine lv_iconst (v := 1) hx hb d_MO_take_25 (by decide) ?_
          refine lv_iadd hx hb d_MO_take_26 ?_
          refine tt_ti (show (nI (cn + 3)) + 1 = nI (cn + 4) from nI_add (cn + 3) 1) ?_
          refine va_put (D := D) (ci := 6) (v := .int (nI (cn + 4))) (ty := .int) (C := R_MO) (T := F_MO) (N := 18) hx hb htT i_MO t_MO t_MO_ok n_MO hown hK hP hD hS 0 rfl rfl 2 (by decide) (htT _ k_637) (fun _ h9 => h9) rfl (by decide +kernel) rfl rfl (Nat.le_of_ble_eq_true rfl) d_MO_take_27 (fun H locs hP hD hS => ?_)
          have hP : va_P D vwCl [(am 0, .inr (6, [.int ft, .ref (am 1), .int (nI (cn + 4)), .ref (am 2), .int (nI tn), .ref (am 3), .ref (am 4), .ref (am 5), .ref (am 6), .ref (am 7), .ref (am 8), .int (nI mc), .int pl, .int tk, .int (nI fr), .int (nI tj), .ref (am 9), .int (nI dn)])), (am 1, .inl (cB, 16384, .inl (upd (upd (upd (upd g cn ((v >>> (24 &&& 31)).toInt8.toInt32)) (cn + 1) ((v >>> (16 &&& 31)).toInt8.toInt32)) (cn + 2) ((v >>> (8 &&& 31)).toInt8.toInt32)) (cn + 3) ((v >>> (0 &&& 31)).toInt8.toInt32))))] H := hP
          have hD : va_D A [(am 0, .inr (6, [.int ft, .ref (am 1), .int (nI (cn + 4)), .ref (am 2), .int (nI tn), .ref (am 3), .ref (am 4), .ref (am 5), .ref (am 6), .ref (am 7), .ref (am 8), .int (nI mc), .int pl, .int tk, .int (nI fr), .int (nI tj), .ref (am 9), .int (nI dn)])), (am 1, .inl (cB, 16384, .inl (upd (upd (upd (upd g cn ((v >>> (24 &&& 31)).toInt8.toInt32)) (cn + 1) ((v >>> (16 &&& 31)).toInt8.toInt32)) (cn + 2) ((v >>> (8 &&& 31)).toInt8.toInt32)) (cn + 3) ((v >>> (0 &&& 31)).toInt8.toInt32))))] := hD
          refine lv_iinc (v := (-8)) (lv' := [(2, .int (-8)), (0, .ref (am 0)), (1, .int v)]) hx hb d_MO_take_30 hl (k := 0) rfl (by decide) (by decide) rfl (fun ls hl => ?_)
          refine lv_goto (tgt := 3) hx hb d_MO_take_33 (by decide) ?_
          refine lv_iload_n hx hb d_MO_take_3 rfl (lv_at hl 0 rfl) ?_
          refine lv_if_lt (tgt := 36) hx hb d_MO_take_4 (by decide) (fun c_4 => ?_) (fun c_4 => ?_)
          · skip
            have o_g2 : (tm_f4 g cn v) = (upd (upd (upd (upd g cn ((v >>> (24 &&& 31)).toInt8.toInt32)) (cn + 1) ((v >>> (16 &&& 31)).toInt8.toInt32)) (cn + 2) ((v >>> (8 &&& 31)).toInt8.toInt32)) (cn + 3) ((v >>> (0 &&& 31)).toInt8.toInt32)) := by rfl
            have hP9 : va_P D vwCl [(am 0, .inr (6, [.int ft, .ref (am 1), .int (nI (cn + 4)), .ref (am 2), .int (nI tn), .ref (am 3), .ref (am 4), .ref (am 5), .ref (am 6), .ref (am 7), .ref (am 8), .int (nI mc), .int pl, .int tk, .int (nI fr), .int (nI tj), .ref (am 9), .int (nI dn)])), (am 1, .inl (cB, 16384, .inl (upd (upd (upd (upd g cn ((v >>> (24 &&& 31)).toInt8.toInt32)) (cn + 1) ((v >>> (16 &&& 31)).toInt8.toInt32)) (cn + 2) ((v >>> (8 &&& 31)).toInt8.toInt32)) (cn + 3) ((v >>> (0 &&& 31)).toInt8.toInt32))))] H := hP.sub [0, 1] rfl
            have hD9 : va_D A [(am 0, .inr (6, [.int ft, .ref (am 1), .int (nI (cn + 4)), .ref (am 2), .int (nI tn), .ref (am 3), .ref (am 4), .ref (am 5), .ref (am 6), .ref (am 7), .ref (am 8), .int (nI mc), .int pl, .int tk, .int (nI fr), .int (nI tj), .ref (am 9), .int (nI dn)])), (am 1, .inl (cB, 16384, .inl (upd (upd (upd (upd g cn ((v >>> (24 &&& 31)).toInt8.toInt32)) (cn + 1) ((v >>> (16 &&& 31)).toInt8.toInt32)) (cn + 2) ((v >>> (8 &&& 31)).toInt8.toInt32)) (cn + 3) ((v >>> (0 &&& 31)).toInt8.toInt32))))] := hD.sub [0, 1] (by decide) rfl
            have hP9 : va_P D vwCl [(am 0, .inr (6, [.int ft, .ref (am 1), .int (nI (cn + 4)), .ref (am 2), .int (nI tn), .ref (am 3), .ref (am 4), .ref (am 5), .ref (am 6), .ref (am 7), .ref (am 8), .int (nI mc), .int pl, .int tk, .int (nI fr), .int (nI tj), .ref (am 9), .int (nI dn)])), (am 1, .inl (cB, 16384, .inl (tm_f4 g cn v)))] H := by rw [o_g2]; exact hP9
            have hD9 : va_D A [(am 0, .inr (6, [.int ft, .ref (am 1), .int (nI (cn + 4)), .ref (am 2), .int (nI tn), .ref (am 3), .ref (am 4), .ref (am 5), .ref (am 6), .ref (am 7), .ref (am 8), .int (nI mc), .int pl, .int tk, .int (nI fr), .int (nI tj), .ref (am 9), .int (nI dn)])), (am 1, .inl (cB, 16384, .inl (tm_f4 g cn v)))] := by rw [o_g2]; exact hD9
            exact W.vret hx hb hr (fun t ht hW => ⟨⟨(), rfl, trivial, by rw [ht]; exact hP9, hD9⟩, hS.F ht⟩) hS.2.2 d_MO_take_36
          · exact absurd c_4 (by decide)
abbrev rm_MO_feed : Room := { frames := 1, cells := 0, slots := 0, locals := 22 }
abbrev q_MO_feed (D : va_G) (cI cB cL : ClassId) (am : Nat → Nat) (ft : Int32) (cn tn mc : Nat) (pl tk : Int32) (fr tj dn : Nat) (g : Nat → Int32) (x0 x1 x2 x3 x4 : Int32) (A : Nat → Prop) : Array Value → State → Outcome → State → Prop := va_Qv (fun _ => True) (fun (_ : Unit) t => va_P D vwCl [(am 0, .inr (6, [.int 0, .ref (am 1), .int (nI (cn + 20)), .ref (am 2), .int (nI tn), .ref (am 3), .ref (am 4), .ref (am 5), .ref (am 6), .ref (am 7), .ref (am 8), .int (nI mc), .int pl, .int tk, .int (nI fr), .int (nI tj), .ref (am 9), .int (nI dn)])), (am 1, .inl (cB, 16384, .inl (tm_f20 g cn x0 x1 x2 x3 x4)))] t.heap ∧ va_D A [(am 0, .inr (6, [.int 0, .ref (am 1), .int (nI (cn + 20)), .ref (am 2), .int (nI tn), .ref (am 3), .ref (am 4), .ref (am 5), .ref (am 6), .ref (am 7), .ref (am 8), .int (nI mc), .int pl, .int tk, .int (nI fr), .int (nI tj), .ref (am 9), .int (nI dn)])), (am 1, .inl (cB, 16384, .inl (tm_f20 g cn x0 x1 x2 x3 x4)))]) A
set_option maxHeartbeats 4000000 in
set_option maxRecDepth 100000 in
theorem c_MO_feed (l : Launch) (D : va_G) (cI cB cL : ClassId) (am : Nat → Nat) (ft : Int32) (cn tn mc : Nat) (pl tk : Int32) (fr tj dn : Nat) (g : Nat → Int32) (x0 x1 x2 x3 x4 : Int32) (hn : cn + 20 ≤ 16384) (sz : Nat) : Met l y_MO_feed w_MO_feed rm_MO_feed (va_Pc [.ref (am 0), .int x0, .int x1, .int x2, .int x3, .int x4] (fun U => U.heap.size = sz ∧ va_P D vwCl [(am 0, .inr (6, [.int ft, .ref (am 1), .int (nI cn), .ref (am 2), .int (nI tn), .ref (am 3), .ref (am 4), .ref (am 5), .ref (am 6), .ref (am 7), .ref (am 8), .int (nI mc), .int pl, .int tk, .int (nI fr), .int (nI tj), .ref (am 9), .int (nI dn)])), (am 1, .inl (cB, 16384, .inl g))] U.heap ∧ va_K D vwCl (tt_ty cI cB cL) U ∧ va_D (fun _ => True) [(am 0, .inr (6, [.int ft, .ref (am 1), .int (nI cn), .ref (am 2), .int (nI tn), .ref (am 3), .ref (am 4), .ref (am 5), .ref (am 6), .ref (am 7), .ref (am 8), .int (nI mc), .int pl, .int tk, .int (nI fr), .int (nI tj), .ref (am 9), .int (nI dn)])), (am 1, .inl (cB, 16384, .inl g))])) (q_MO_feed D cI cB cL am ft cn tn mc pl tk fr tj dn g x0 x1 x2 x3 x4 (va_A [(am 0, .inr (6, [.int ft, .ref (am 1), .int (nI cn), .ref (am 2), .int (nI tn), .ref (am 3), .ref (am 4), .ref (am 5), .ref (am 6), .ref (am 7), .ref (am 8), .int (nI mc), .int pl, .int tk, .int (nI fr), .int (nI tj), .ref (am 9), .int (nI dn)])), (am 1, .inl (cB, 16384, .inl g))] sz)) 0 0 (va_A [(am 0, .inr (6, [.int ft, .ref (am 1), .int (nI cn), .ref (am 2), .int (nI tn), .ref (am 3), .ref (am 4), .ref (am 5), .ref (am 6), .ref (am 7), .ref (am 8), .int (nI mc), .int pl, .int tk, .int (nI fr), .int (nI tj), .ref (am 9), .int (nI dn)])), (am 1, .inl (cB, 16384, .inl g))] sz) := by
  refine Met.ofW (cc := b_MO_feed) (maxL := 6) (ret := none) (by decide) rfl ?_
  intro p e s m args below meth c s₁ B hml hv
  obtain ⟨rfl, hsz, hP, hK, hD0⟩ := hv
  have hx := B.exec
  have hb := B.bytes
  have hr := B.returns
  have hts := atoms_spec (ws := w_MO_feed) B.pre
  have htT : ∀ w ∈ tt_T, w.before _ s = true := fun w h => hts w (List.mem_cons_of_mem _ h)
  have hown : s.vm.findClass R_MO = some m.cls := findClass_of_methodNamed B.named
  have hlocks := B.notSynchronized
  subst hsz
  have hD := hD0.self (sz := s.heap.size)
  generalize hAe : va_A [(am 0, .inr (6, [.int ft, .ref (am 1), .int (nI cn), .ref (am 2), .int (nI tn), .ref (am 3), .ref (am 4), .ref (am 5), .ref (am 6), .ref (am 7), .ref (am 8), .int (nI mc), .int pl, .int tk, .int (nI fr), .int (nI tj), .ref (am 9), .int (nI dn)])), (am 1, .inl (cB, 16384, .inl g))] s.heap.size = A at hD ⊢
  have hA : ∀ q : Nat, s.heap.size ≤ q → A q := fun q h => by rw [← hAe]; exact Or.inr h
  have hS : va_S A s.heap s.heap [] := va_S.rf
  have hl := lv_entry ([.ref (am 0), .int x0, .int x1, .int x2, .int x3, .int x4]) (n := 6) (Nat.le_of_ble_eq_true rfl)
  rw [lg_entry_eq]
  generalize (lg_sl ([.ref (am 0), .int x0, .int x1, .int x2, .int x3, .int x4]) ++ List.replicate (6 - (lg_sl ([.ref (am 0), .int x0, .int x1, .int x2, .int x3, .int x4])).length) Slot.unset).toArray = ls at hl ⊢
  have hl : lv_has ls 6 [(0, .ref (am 0)), (1, .int x0), (2, .int x1), (3, .int x2), (4, .int x3), (5, .int x4)] := hl
  have hP : va_P D vwCl [(am 0, .inr (6, [.int ft, .ref (am 1), .int (nI cn), .ref (am 2), .int (nI tn), .ref (am 3), .ref (am 4), .ref (am 5), .ref (am 6), .ref (am 7), .ref (am 8), .int (nI mc), .int pl, .int tk, .int (nI fr), .int (nI tj), .ref (am 9), .int (nI dn)])), (am 1, .inl (cB, 16384, .inl g))] s.heap := hP
  refine lv_aload_n hx hb d_MO_feed_0 rfl (lv_at hl 0 rfl) ?_
  refine lv_aload_n hx hb d_MO_feed_1 rfl (lv_at hl 0 rfl) ?_
  refine va_get (D := D) (ci := 6) (v := .int (nI cn)) (C := R_MO) (T := F_MO) (N := 18) hx hb htT i_MO hown hK hP 0 rfl rfl 2 (by decide) (htT _ k_637) (fun _ h9 => h9) rfl d_MO_feed_2 ?_
  refine lv_bipush (v := 20) hx hb d_MO_feed_5 (by decide) ?_
  refine lv_iadd hx hb d_MO_feed_7 ?_
  refine tt_ti (show (nI cn) + 20 = nI (cn + 20) from nI_add cn 20) ?_
  refine lv_sipush (v := 16384) hx hb d_MO_feed_8 (by decide) ?_
  refine lv_icmp_le (tgt := 18) hx hb d_MO_feed_11 (by decide) (fun c_11 => ?_) (fun c_11 => ?_)
  · have c_11 : (cn + 20) ≤ 16384 := (nI_leI (a := (cn + 20)) (b := 16384) (by omega) (by omega)).mp c_11
    refine lv_iconst (v := 0) hx hb d_MO_feed_18 (by decide) ?_
    refine va_put (D := D) (ci := 6) (v := .int 0) (ty := .int) (C := R_MO) (T := F_MO) (N := 18) hx hb htT i_MO t_MO t_MO_ok n_MO hown hK hP hD hS 0 rfl rfl 0 (by decide) (htT _ k_635) (fun _ h9 => h9) rfl (by decide +kernel) rfl rfl (Nat.le_of_ble_eq_true rfl) d_MO_feed_19 (fun H locs hP hD hS => ?_)
    have hP : va_P D vwCl [(am 0, .inr (6, [.int 0, .ref (am 1), .int (nI cn), .ref (am 2), .int (nI tn), .ref (am 3), .ref (am 4), .ref (am 5), .ref (am 6), .ref (am 7), .ref (am 8), .int (nI mc), .int pl, .int tk, .int (nI fr), .int (nI tj), .ref (am 9), .int (nI dn)])), (am 1, .inl (cB, 16384, .inl g))] H := hP
    have hD : va_D A [(am 0, .inr (6, [.int 0, .ref (am 1), .int (nI cn), .ref (am 2), .int (nI tn), .ref (am 3), .ref (am 4), .ref (am 5), .ref (am 6), .ref (am 7), .ref (am 8), .int (nI mc), .int pl, .int tk, .int (nI fr), .int (nI tj), .ref (am 9), .int (nI dn)])), (am 1, .inl (cB, 16384, .inl g))] := hD
    refine lv_aload_n hx hb d_MO_feed_22 rfl (lv_at hl 0 rfl) ?_
    refine va_get (D := D) (ci := 6) (v := .int 0) (C := R_MO) (T := F_MO) (N := 18) hx hb htT i_MO hown hK hP 0 rfl rfl 0 (by decide) (htT _ k_635) (fun _ h9 => h9) rfl d_MO_feed_23 ?_
    refine lv_if_ne (tgt := 56) hx hb d_MO_feed_26 (by decide) (fun c_26 => ?_) (fun c_26 => ?_)
    · exact absurd c_26 (by decide)
    · skip
      refine lv_aload_n hx hb d_MO_feed_29 rfl (lv_at hl 0 rfl) ?_
      refine lv_iload_n hx hb d_MO_feed_30 rfl (lv_at hl 1 rfl) ?_
      refine tt_muV (wr := []) (va_runV (As := [.int x0]) (rest := []) ⟨hx, hb, hml, hown, hts⟩ (c_MO_take l D cI cB cL am 0 cn tn mc pl tk fr tj dn g x0 (by omega) _) (cwV 1 hts (tt_gV k_698 k_700 ks_20 k_7 k_701) rfl rfl rfl hv_MO_take ⟨Nat.le_of_ble_eq_true rfl, Nat.le_of_ble_eq_true rfl⟩) (tt_mupreV (w := [(am 0, .inr (6, [.int 0, .ref (am 1), .int (nI cn), .ref (am 2), .int (nI tn), .ref (am 3), .ref (am 4), .ref (am 5), .ref (am 6), .ref (am 7), .ref (am 8), .int (nI mc), .int pl, .int tk, .int (nI fr), .int (nI tj), .ref (am 9), .int (nI dn)])), (am 1, .inl (cB, 16384, .inl g))]) hK hP hD [0, 1] rfl (by decide) rfl (va_recv hK hP (ci := 6) (q0 := 0) rfl rfl)) rfl rfl hl.1 rfl (lv_room (Nat.le_of_ble_eq_true rfl)) d_MO_feed_31 ⟨Nat.zero_le _, Nat.zero_le _⟩) hS hP hD hA [0, 1] [] rfl rfl (by decide) (by decide) (fun H locs hP hD hS => ?_)
      have hP : va_P D vwCl [(am 0, .inr (6, [.int 0, .ref (am 1), .int (nI (cn + 4)), .ref (am 2), .int (nI tn), .ref (am 3), .ref (am 4), .ref (am 5), .ref (am 6), .ref (am 7), .ref (am 8), .int (nI mc), .int pl, .int tk, .int (nI fr), .int (nI tj), .ref (am 9), .int (nI dn)])), (am 1, .inl (cB, 16384, .inl (tm_f4 g cn x0)))] H := hP
      have hD : va_D A [(am 0, .inr (6, [.int 0, .ref (am 1), .int (nI (cn + 4)), .ref (am 2), .int (nI tn), .ref (am 3), .ref (am 4), .ref (am 5), .ref (am 6), .ref (am 7), .ref (am 8), .int (nI mc), .int pl, .int tk, .int (nI fr), .int (nI tj), .ref (am 9), .int (nI dn)])), (am 1, .inl (cB, 16384, .inl (tm_f4 g cn x0)))] := hD
      refine lv_aload_n hx hb d_MO_feed_34 rfl (lv_at hl 0 rfl) ?_
      refine lv_iload_n hx hb d_MO_feed_35 rfl (lv_at hl 2 rfl) ?_
      refine tt_muV (wr := []) (va_runV (As := [.int x1]) (rest := []) ⟨hx, hb, hml, hown, hts⟩ (c_MO_take l D cI cB cL am 0 (cn + 4) tn mc pl tk fr tj dn (tm_f4 g cn x0) x1 (by omega) _) (cwV 1 hts (tt_gV k_698 k_700 ks_20 k_7 k_701) rfl rfl rfl hv_MO_take ⟨Nat.le_of_ble_eq_true rfl, Nat.le_of_ble_eq_true rfl⟩) (tt_mupreV (w := [(am 0, .inr (6, [.int 0, .ref (am 1), .int (nI (cn + 4)), .ref (am 2), .int (nI tn), .ref (am 3), .ref (am 4), .ref (am 5), .ref (am 6), .ref (am 7), .ref (am 8), .int (nI mc), .int pl, .int tk, .int (nI fr), .int (nI tj), .ref (am 9), .int (nI dn)])), (am 1, .inl (cB, 16384, .inl (tm_f4 g cn x0)))]) hK hP hD [0, 1] rfl (by decide) rfl (va_recv hK hP (ci := 6) (q0 := 0) rfl rfl)) rfl rfl hl.1 rfl (lv_room (Nat.le_of_ble_eq_true rfl)) d_MO_feed_36 ⟨Nat.zero_le _, Nat.zero_le _⟩) hS hP hD hA [0, 1] [] rfl rfl (by decide) (by decide) (fun H locs hP hD hS => ?_)
      have hP : va_P D vwCl [(am 0, .inr (6, [.int 0, .ref (am 1), .int (nI ((cn + 4) + 4)), .ref (am 2), .int (nI tn), .ref (am 3), .ref (am 4), .ref (am 5), .ref (am 6), .ref (am 7), .ref (am 8), .int (nI mc), .int pl, .int tk, .int (nI fr), .int (nI tj), .ref (am 9), .int (nI dn)])), (am 1, .inl (cB, 16384, .inl (tm_f4 (tm_f4 g cn x0) (cn + 4) x1)))] H := hP
      have hD : va_D A [(am 0, .inr (6, [.int 0, .ref (am 1), .int (nI ((cn + 4) + 4)), .ref (am 2), .int (nI tn), .ref (am 3), .ref (am 4), .ref (am 5), .ref (am 6), .ref (am 7), .ref (am 8), .int (nI mc), .int pl, .int tk, .int (nI fr), .int (nI tj), .ref (am 9), .int (nI dn)])), (am 1, .inl (cB, 16384, .inl (tm_f4 (tm_f4 g cn x0) (cn + 4) x1)))] := hD
      refine lv_aload_n hx hb d_MO_feed_39 rfl (lv_at hl 0 rfl) ?_
      refine lv_iload_n hx hb d_MO_feed_40 rfl (lv_at hl 3 rfl) ?_
      refine tt_muV (wr := []) (va_runV (As := [.int x2]) (rest := []) ⟨hx, hb, hml, hown, hts⟩ (c_MO_take l D cI cB cL am 0 ((cn + 4) + 4) tn mc pl tk fr tj dn (tm_f4 (tm_f4 g cn x0) (cn + 4) x1) x2 (by omega) _) (cwV 1 hts (tt_gV k_698 k_700 ks_20 k_7 k_701) rfl rfl rfl hv_MO_take ⟨Nat.le_of_ble_eq_true rfl, Nat.le_of_ble_eq_true rfl⟩) (tt_mupreV (w := [(am 0, .inr (6, [.int 0, .ref (am 1), .int (nI ((cn + 4) + 4)), .ref (am 2), .int (nI tn), .ref (am 3), .ref (am 4), .ref (am 5), .ref (am 6), .ref (am 7), .ref (am 8), .int (nI mc), .int pl, .int tk, .int (nI fr), .int (nI tj), .ref (am 9), .int (nI dn)])), (am 1, .inl (cB, 16384, .inl (tm_f4 (tm_f4 g cn x0) (cn + 4) x1)))]) hK hP hD [0, 1] rfl (by decide) rfl (va_recv hK hP (ci := 6) (q0 := 0) rfl rfl)) rfl rfl hl.1 rfl (lv_room (Nat.le_of_ble_eq_true rfl)) d_MO_feed_41 ⟨Nat.zero_le _, Nat.zero_le _⟩) hS hP hD hA [0, 1] [] rfl rfl (by decide) (by decide) (fun H locs hP hD hS => ?_)
      have hP : va_P D vwCl [(am 0, .inr (6, [.int 0, .ref (am 1), .int (nI (((cn + 4) + 4) + 4)), .ref (am 2), .int (nI tn), .ref (am 3), .ref (am 4), .ref (am 5), .ref (am 6), .ref (am 7), .ref (am 8), .int (nI mc), .int pl, .int tk, .int (nI fr), .int (nI tj), .ref (am 9), .int (nI dn)])), (am 1, .inl (cB, 16384, .inl (tm_f4 (tm_f4 (tm_f4 g cn x0) (cn + 4) x1) ((cn + 4) + 4) x2)))] H := hP
      have hD : va_D A [(am 0, .inr (6, [.int 0, .ref (am 1), .int (nI (((cn + 4) + 4) + 4)), .ref (am 2), .int (nI tn), .ref (am 3), .ref (am 4), .ref (am 5), .ref (am 6), .ref (am 7), .ref (am 8), .int (nI mc), .int pl, .int tk, .int (nI fr), .int (nI tj), .ref (am 9), .int (nI dn)])), (am 1, .inl (cB, 16384, .inl (tm_f4 (tm_f4 (tm_f4 g cn x0) (cn + 4) x1) ((cn + 4) + 4) x2)))] := hD
      refine lv_aload_n hx hb d_MO_feed_44 rfl (lv_at hl 0 rfl) ?_
      refine lv_iload hx hb d_MO_feed_45 (lv_at hl 4 rfl) ?_
      refine tt_muV (wr := []) (va_runV (As := [.int x3]) (rest := []) ⟨hx, hb, hml, hown, hts⟩ (c_MO_take l D cI cB cL am 0 (((cn + 4) + 4) + 4) tn mc pl tk fr tj dn (tm_f4 (tm_f4 (tm_f4 g cn x0) (cn + 4) x1) ((cn + 4) + 4) x2) x3 (by omega) _) (cwV 1 hts (tt_gV k_698 k_700 ks_20 k_7 k_701) rfl rfl rfl hv_MO_take ⟨Nat.le_of_ble_eq_true rfl, Nat.le_of_ble_eq_true rfl⟩) (tt_mupreV (w := [(am 0, .inr (6, [.int 0, .ref (am 1), .int (nI (((cn + 4) + 4) + 4)), .ref (am 2), .int (nI tn), .ref (am 3), .ref (am 4), .ref (am 5), .ref (am 6), .ref (am 7), .ref (am 8), .int (nI mc), .int pl, .int tk, .int (nI fr), .int (nI tj), .ref (am 9), .int (nI dn)])), (am 1, .inl (cB, 16384, .inl (tm_f4 (tm_f4 (tm_f4 g cn x0) (cn + 4) x1) ((cn + 4) + 4) x2)))]) hK hP hD [0, 1] rfl (by decide) rfl (va_recv hK hP (ci := 6) (q0 := 0) rfl rfl)) rfl rfl hl.1 rfl (lv_room (Nat.le_of_ble_eq_true rfl)) d_MO_feed_47 ⟨Nat.zero_le _, Nat.zero_le _⟩) hS hP hD hA [0, 1] [] rfl rfl (by decide) (by decide) (fun H locs hP hD hS => ?_)
      have hP : va_P D vwCl [(am 0, .inr (6, [.int 0, .ref (am 1), .int (nI ((((cn + 4) + 4) + 4) + 4)), .ref (am 2), .int (nI tn), .ref (am 3), .ref (am 4), .ref (am 5), .ref (am 6), .ref (am 7), .ref (am 8), .int (nI mc), .int pl, .int tk, .int (nI fr), .int (nI tj), .ref (am 9), .int (nI dn)])), (am 1, .inl (cB, 16384, .inl (tm_f4 (tm_f4 (tm_f4 (tm_f4 g cn x0) (cn + 4) x1) ((cn + 4) + 4) x2) (((cn + 4) + 4) + 4) x3)))] H := hP
      have hD : va_D A [(am 0, .inr (6, [.int 0, .ref (am 1), .int (nI ((((cn + 4) + 4) + 4) + 4)), .ref (am 2), .int (nI tn), .ref (am 3), .ref (am 4), .ref (am 5), .ref (am 6), .ref (am 7), .ref (am 8), .int (nI mc), .int pl, .int tk, .int (nI fr), .int (nI tj), .ref (am 9), .int (nI dn)])), (am 1, .inl (cB, 16384, .inl (tm_f4 (tm_f4 (tm_f4 (tm_f4 g cn x0) (cn + 4) x1) ((cn + 4) + 4) x2) (((cn + 4) + 4) + 4) x3)))] := hD
      refine lv_aload_n hx hb d_MO_feed_50 rfl (lv_at hl 0 rfl) ?_
      refine lv_iload hx hb d_MO_feed_51 (lv_at hl 5 rfl) ?_
      refine tt_muV (wr := []) (va_runV (As := [.int x4]) (rest := []) ⟨hx, hb, hml, hown, hts⟩ (c_MO_take l D cI cB cL am 0 ((((cn + 4) + 4) + 4) + 4) tn mc pl tk fr tj dn (tm_f4 (tm_f4 (tm_f4 (tm_f4 g cn x0) (cn + 4) x1) ((cn + 4) + 4) x2) (((cn + 4) + 4) + 4) x3) x4 (by omega) _) (cwV 1 hts (tt_gV k_698 k_700 ks_20 k_7 k_701) rfl rfl rfl hv_MO_take ⟨Nat.le_of_ble_eq_true rfl, Nat.le_of_ble_eq_true rfl⟩) (tt_mupreV (w := [(am 0, .inr (6, [.int 0, .ref (am 1), .int (nI ((((cn + 4) + 4) + 4) + 4)), .ref (am 2), .int (nI tn), .ref (am 3), .ref (am 4), .ref (am 5), .ref (am 6), .ref (am 7), .ref (am 8), .int (nI mc), .int pl, .int tk, .int (nI fr), .int (nI tj), .ref (am 9), .int (nI dn)])), (am 1, .inl (cB, 16384, .inl (tm_f4 (tm_f4 (tm_f4 (tm_f4 g cn x0) (cn + 4) x1) ((cn + 4) + 4) x2) (((cn + 4) + 4) + 4) x3)))]) hK hP hD [0, 1] rfl (by decide) rfl (va_recv hK hP (ci := 6) (q0 := 0) rfl rfl)) rfl rfl hl.1 rfl (lv_room (Nat.le_of_ble_eq_true rfl)) d_MO_feed_53 ⟨Nat.zero_le _, Nat.zero_le _⟩) hS hP hD hA [0, 1] [] rfl rfl (by decide) (by decide) (fun H locs hP hD hS => ?_)
      have hP : va_P D vwCl [(am 0, .inr (6, [.int 0, .ref (am 1), .int (nI (((((cn + 4) + 4) + 4) + 4) + 4)), .ref (am 2), .int (nI tn), .ref (am 3), .ref (am 4), .ref (am 5), .ref (am 6), .ref (am 7), .ref (am 8), .int (nI mc), .int pl, .int tk, .int (nI fr), .int (nI tj), .ref (am 9), .int (nI dn)])), (am 1, .inl (cB, 16384, .inl (tm_f4 (tm_f4 (tm_f4 (tm_f4 (tm_f4 g cn x0) (cn + 4) x1) ((cn + 4) + 4) x2) (((cn + 4) + 4) + 4) x3) ((((cn + 4) + 4) + 4) + 4) x4)))] H := hP
      have hD : va_D A [(am 0, .inr (6, [.int 0, .ref (am 1), .int (nI (((((cn + 4) + 4) + 4) + 4) + 4)), .ref (am 2), .int (nI tn), .ref (am 3), .ref (am 4), .ref (am 5), .ref (am 6), .ref (am 7), .ref (am 8), .int (nI mc), .int pl, .int tk, .int (nI fr), .int (nI tj), .ref (am 9), .int (nI dn)])), (am 1, .inl (cB, 16384, .inl (tm_f4 (tm_f4 (tm_f4 (tm_f4 (tm_f4 g cn x0) (cn + 4) x1) ((cn + 4) + 4) x2) (((cn + 4) + 4) + 4) x3) ((((cn + 4) + 4) + 4) + 4) x4)))] := hD
      have o_g2 : (tm_f20 g cn x0 x1 x2 x3 x4) = (tm_f4 (tm_f4 (tm_f4 (tm_f4 (tm_f4 g cn x0) (cn + 4) x1) ((cn + 4) + 4) x2) (((cn + 4) + 4) + 4) x3) ((((cn + 4) + 4) + 4) + 4) x4) := by rfl
      have o_n2 : (cn + 20 : Nat) = (((((cn + 4) + 4) + 4) + 4) + 4) := by rfl
      have hP9 : va_P D vwCl [(am 0, .inr (6, [.int 0, .ref (am 1), .int (nI (((((cn + 4) + 4) + 4) + 4) + 4)), .ref (am 2), .int (nI tn), .ref (am 3), .ref (am 4), .ref (am 5), .ref (am 6), .ref (am 7), .ref (am 8), .int (nI mc), .int pl, .int tk, .int (nI fr), .int (nI tj), .ref (am 9), .int (nI dn)])), (am 1, .inl (cB, 16384, .inl (tm_f4 (tm_f4 (tm_f4 (tm_f4 (tm_f4 g cn x0) (cn + 4) x1) ((cn + 4) + 4) x2) (((cn + 4) + 4) + 4) x3) ((((cn + 4) + 4) + 4) + 4) x4)))] H := hP.sub [0, 1] rfl
      have hD9 : va_D A [(am 0, .inr (6, [.int 0, .ref (am 1), .int (nI (((((cn + 4) + 4) + 4) + 4) + 4)), .ref (am 2), .int (nI tn), .ref (am 3), .ref (am 4), .ref (am 5), .ref (am 6), .ref (am 7), .ref (am 8), .int (nI mc), .int pl, .int tk, .int (nI fr), .int (nI tj), .ref (am 9), .int (nI dn)])), (am 1, .inl (cB, 16384, .inl (tm_f4 (tm_f4 (tm_f4 (tm_f4 (tm_f4 g cn x0) (cn + 4) x1) ((cn + 4) + 4) x2) (((cn + 4) + 4) + 4) x3) ((((cn + 4) + 4) + 4) + 4) x4)))] := hD.sub [0, 1] (by decide) rfl
      have hP9 : va_P D vwCl [(am 0, .inr (6, [.int 0, .ref (am 1), .int (nI (cn + 20)), .ref (am 2), .int (nI tn), .ref (am 3), .ref (am 4), .ref (am 5), .ref (am 6), .ref (am 7), .ref (am 8), .int (nI mc), .int pl, .int tk, .int (nI fr), .int (nI tj), .ref (am 9), .int (nI dn)])), (am 1, .inl (cB, 16384, .inl (tm_f20 g cn x0 x1 x2 x3 x4)))] H := by rw [o_g2, o_n2]; exact hP9
      have hD9 : va_D A [(am 0, .inr (6, [.int 0, .ref (am 1), .int (nI (cn + 20)), .ref (am 2), .int (nI tn), .ref (am 3), .ref (am 4), .ref (am 5), .ref (am 6), .ref (am 7), .ref (am 8), .int (nI mc), .int pl, .int tk, .int (nI fr), .int (nI tj), .ref (am 9), .int (nI dn)])), (am 1, .inl (cB, 16384, .inl (tm_f20 g cn x0 x1 x2 x3 x4)))] := by rw [o_g2, o_n2]; exact hD9
      exact W.vret hx hb hr (fun t ht hW => ⟨⟨(), rfl, trivial, by rw [ht]; exact hP9, hD9⟩, hS.F ht⟩) hS.2.2 d_MO_feed_56
  · have c_11 : ¬ (cn + 20) ≤ 16384 := fun z9 => c_11 ((nI_leI (a := (cn + 20)) (b := 16384) (by omega) (by omega)).mpr z9)
    have c_11 := Nat.not_le.mp c_11
    exact absurd c_11 (by omega)
abbrev rm_MO_end : Room := { frames := 0, cells := 0, slots := 0, locals := 0 }
abbrev q_MO_end (D : va_G) (cI cB cL : ClassId) (am : Nat → Nat) (ft : Int32) (cn tn mc : Nat) (pl tk : Int32) (fr tj dn : Nat) (x : Int32) (A : Nat → Prop) : Array Value → State → Outcome → State → Prop := va_Qi (fun r9 _ => r9 = (if x < 0 then 0 else if x ≤ nI cn then nI cn else 0)) (fun (_ : Unit) t => va_P D vwCl [(am 0, .inr (6, [.int (if x < 0 then 1 else if x ≤ nI cn then 0 else 1), .ref (am 1), .int (if x < 0 then nI cn else if x ≤ nI cn then x else nI cn), .ref (am 2), .int (nI tn), .ref (am 3), .ref (am 4), .ref (am 5), .ref (am 6), .ref (am 7), .ref (am 8), .int (nI mc), .int pl, .int tk, .int (nI fr), .int (nI tj), .ref (am 9), .int (nI dn)]))] t.heap ∧ va_D A [(am 0, .inr (6, [.int (if x < 0 then 1 else if x ≤ nI cn then 0 else 1), .ref (am 1), .int (if x < 0 then nI cn else if x ≤ nI cn then x else nI cn), .ref (am 2), .int (nI tn), .ref (am 3), .ref (am 4), .ref (am 5), .ref (am 6), .ref (am 7), .ref (am 8), .int (nI mc), .int pl, .int tk, .int (nI fr), .int (nI tj), .ref (am 9), .int (nI dn)]))]) A
set_option maxHeartbeats 4000000 in
set_option maxRecDepth 100000 in
theorem c_MO_end (l : Launch) (D : va_G) (cI cB cL : ClassId) (am : Nat → Nat) (ft : Int32) (cn tn mc : Nat) (pl tk : Int32) (fr tj dn : Nat) (x : Int32) (sz : Nat) : Met l y_MO_end w_MO_end rm_MO_end (va_Pc [.ref (am 0), .int x] (fun U => U.heap.size = sz ∧ va_P D vwCl [(am 0, .inr (6, [.int ft, .ref (am 1), .int (nI cn), .ref (am 2), .int (nI tn), .ref (am 3), .ref (am 4), .ref (am 5), .ref (am 6), .ref (am 7), .ref (am 8), .int (nI mc), .int pl, .int tk, .int (nI fr), .int (nI tj), .ref (am 9), .int (nI dn)]))] U.heap ∧ va_K D vwCl (tt_ty cI cB cL) U ∧ va_D (fun _ => True) [(am 0, .inr (6, [.int ft, .ref (am 1), .int (nI cn), .ref (am 2), .int (nI tn), .ref (am 3), .ref (am 4), .ref (am 5), .ref (am 6), .ref (am 7), .ref (am 8), .int (nI mc), .int pl, .int tk, .int (nI fr), .int (nI tj), .ref (am 9), .int (nI dn)]))])) (q_MO_end D cI cB cL am ft cn tn mc pl tk fr tj dn x (va_A [(am 0, .inr (6, [.int ft, .ref (am 1), .int (nI cn), .ref (am 2), .int (nI tn), .ref (am 3), .ref (am 4), .ref (am 5), .ref (am 6), .ref (am 7), .ref (am 8), .int (nI mc), .int pl, .int tk, .int (nI fr), .int (nI tj), .ref (am 9), .int (nI dn)]))] sz)) 0 0 (va_A [(am 0, .inr (6, [.int ft, .ref (am 1), .int (nI cn), .ref (am 2), .int (nI tn), .ref (am 3), .ref (am 4), .ref (am 5), .ref (am 6), .ref (am 7), .ref (am 8), .int (nI mc), .int pl, .int tk, .int (nI fr), .int (nI tj), .ref (am 9), .int (nI dn)]))] sz) := by
  refine Met.ofW (cc := b_MO_end) (maxL := 3) (ret := (some .int)) (by decide) rfl ?_
  intro p e s m args below meth c s₁ B hml hv
  obtain ⟨rfl, hsz, hP, hK, hD0⟩ := hv
  have hx := B.exec
  have hb := B.bytes
  have hr := B.returns
  have hts := atoms_spec (ws := w_MO_end) B.pre
  have htT : ∀ w ∈ tt_T, w.before _ s = true := fun w h => hts w (List.mem_cons_of_mem _ h)
  have hown : s.vm.findClass R_MO = some m.cls := findClass_of_methodNamed B.named
  have hlocks := B.notSynchronized
  subst hsz
  have hD := hD0.self (sz := s.heap.size)
  generalize hAe : va_A [(am 0, .inr (6, [.int ft, .ref (am 1), .int (nI cn), .ref (am 2), .int (nI tn), .ref (am 3), .ref (am 4), .ref (am 5), .ref (am 6), .ref (am 7), .ref (am 8), .int (nI mc), .int pl, .int tk, .int (nI fr), .int (nI tj), .ref (am 9), .int (nI dn)]))] s.heap.size = A at hD ⊢
  have hA : ∀ q : Nat, s.heap.size ≤ q → A q := fun q h => by rw [← hAe]; exact Or.inr h
  have hS : va_S A s.heap s.heap [] := va_S.rf
  have hl := lv_entry ([.ref (am 0), .int x]) (n := 3) (Nat.le_of_ble_eq_true rfl)
  rw [lg_entry_eq]
  generalize (lg_sl ([.ref (am 0), .int x]) ++ List.replicate (3 - (lg_sl ([.ref (am 0), .int x])).length) Slot.unset).toArray = ls at hl ⊢
  have hl : lv_has ls 3 [(0, .ref (am 0)), (1, .int x)] := hl
  have hP : va_P D vwCl [(am 0, .inr (6, [.int ft, .ref (am 1), .int (nI cn), .ref (am 2), .int (nI tn), .ref (am 3), .ref (am 4), .ref (am 5), .ref (am 6), .ref (am 7), .ref (am 8), .int (nI mc), .int pl, .int tk, .int (nI fr), .int (nI tj), .ref (am 9), .int (nI dn)]))] s.heap := hP
  refine lv_aload_n hx hb d_MO_end_0 rfl (lv_at hl 0 rfl) ?_
  refine lv_iload_n hx hb d_MO_end_1 rfl (lv_at hl 1 rfl) ?_
  refine lv_if_lt (tgt := 13) hx hb d_MO_end_2 (by decide) (fun c_2 => ?_) (fun c_2 => ?_)
  · skip
    refine lv_iconst (v := 1) hx hb d_MO_end_13 (by decide) ?_
    refine lv_goto (tgt := 18) hx hb d_MO_end_14 (by decide) ?_
    refine va_put (D := D) (ci := 6) (v := .int 1) (ty := .int) (C := R_MO) (T := F_MO) (N := 18) hx hb htT i_MO t_MO t_MO_ok n_MO hown hK hP hD hS 0 rfl rfl 0 (by decide) (htT _ k_635) (fun _ h9 => h9) rfl (by decide +kernel) rfl rfl (Nat.le_of_ble_eq_true rfl) d_MO_end_18 (fun H locs hP hD hS => ?_)
    have hP : va_P D vwCl [(am 0, .inr (6, [.int 1, .ref (am 1), .int (nI cn), .ref (am 2), .int (nI tn), .ref (am 3), .ref (am 4), .ref (am 5), .ref (am 6), .ref (am 7), .ref (am 8), .int (nI mc), .int pl, .int tk, .int (nI fr), .int (nI tj), .ref (am 9), .int (nI dn)]))] H := hP
    have hD : va_D A [(am 0, .inr (6, [.int 1, .ref (am 1), .int (nI cn), .ref (am 2), .int (nI tn), .ref (am 3), .ref (am 4), .ref (am 5), .ref (am 6), .ref (am 7), .ref (am 8), .int (nI mc), .int pl, .int tk, .int (nI fr), .int (nI tj), .ref (am 9), .int (nI dn)]))] := hD
    refine lv_aload_n hx hb d_MO_end_21 rfl (lv_at hl 0 rfl) ?_
    refine va_get (D := D) (ci := 6) (v := .int 1) (C := R_MO) (T := F_MO) (N := 18) hx hb htT i_MO hown hK hP 0 rfl rfl 0 (by decide) (htT _ k_635) (fun _ h9 => h9) rfl d_MO_end_22 ?_
    refine lv_if_le (tgt := 30) hx hb d_MO_end_25 (by decide) (fun c_25 => ?_) (fun c_25 => ?_)
    · exact absurd c_25 (by decide)
    · skip
      refine lv_iconst (v := 0) hx hb d_MO_end_28 (by decide) ?_
      have o_r : (0 : Int32) = (if x < 0 then 0 else if x ≤ nI cn then nI cn else 0) := by simp [c_2, c_25]
      have o_ft2 : (if x < 0 then 1 else if x ≤ nI cn then 0 else 1 : Int32) = 1 := by simp [c_2, c_25]
      have o_s2 : (if x < 0 then nI cn else if x ≤ nI cn then x else nI cn : Int32) = (nI cn) := by simp [c_2, c_25]
      have hP9 : va_P D vwCl [(am 0, .inr (6, [.int 1, .ref (am 1), .int (nI cn), .ref (am 2), .int (nI tn), .ref (am 3), .ref (am 4), .ref (am 5), .ref (am 6), .ref (am 7), .ref (am 8), .int (nI mc), .int pl, .int tk, .int (nI fr), .int (nI tj), .ref (am 9), .int (nI dn)]))] H := hP.sub [0] rfl
      have hD9 : va_D A [(am 0, .inr (6, [.int 1, .ref (am 1), .int (nI cn), .ref (am 2), .int (nI tn), .ref (am 3), .ref (am 4), .ref (am 5), .ref (am 6), .ref (am 7), .ref (am 8), .int (nI mc), .int pl, .int tk, .int (nI fr), .int (nI tj), .ref (am 9), .int (nI dn)]))] := hD.sub [0] (by decide) rfl
      have hP9 : va_P D vwCl [(am 0, .inr (6, [.int (if x < 0 then 1 else if x ≤ nI cn then 0 else 1), .ref (am 1), .int (if x < 0 then nI cn else if x ≤ nI cn then x else nI cn), .ref (am 2), .int (nI tn), .ref (am 3), .ref (am 4), .ref (am 5), .ref (am 6), .ref (am 7), .ref (am 8), .int (nI mc), .int pl, .int tk, .int (nI fr), .int (nI tj), .ref (am 9), .int (nI dn)]))] H := by rw [o_s2, o_ft2]; exact hP9
      have hD9 : va_D A [(am 0, .inr (6, [.int (if x < 0 then 1 else if x ≤ nI cn then 0 else 1), .ref (am 1), .int (if x < 0 then nI cn else if x ≤ nI cn then x else nI cn), .ref (am 2), .int (nI tn), .ref (am 3), .ref (am 4), .ref (am 5), .ref (am 6), .ref (am 7), .ref (am 8), .int (nI mc), .int pl, .int tk, .int (nI fr), .int (nI tj), .ref (am 9), .int (nI dn)]))] := by rw [o_s2, o_ft2]; exact hD9
      exact W.iret (v := 0) hx hb hr (fun t ht hW => ⟨⟨_, (), rfl, o_r, by rw [ht]; exact hP9, hD9⟩, hS.F ht⟩) hS.2.2 d_MO_end_29
  · skip
    refine lv_iload_n hx hb d_MO_end_5 rfl (lv_at hl 1 rfl) ?_
    refine lv_aload_n hx hb d_MO_end_6 rfl (lv_at hl 0 rfl) ?_
    refine va_get (D := D) (ci := 6) (v := .int (nI cn)) (C := R_MO) (T := F_MO) (N := 18) hx hb htT i_MO hown hK hP 0 rfl rfl 2 (by decide) (htT _ k_637) (fun _ h9 => h9) rfl d_MO_end_7 ?_
    refine lv_icmp_le (tgt := 17) hx hb d_MO_end_10 (by decide) (fun c_10 => ?_) (fun c_10 => ?_)
    · skip
      refine lv_iconst (v := 0) hx hb d_MO_end_17 (by decide) ?_
      refine va_put (D := D) (ci := 6) (v := .int 0) (ty := .int) (C := R_MO) (T := F_MO) (N := 18) hx hb htT i_MO t_MO t_MO_ok n_MO hown hK hP hD hS 0 rfl rfl 0 (by decide) (htT _ k_635) (fun _ h9 => h9) rfl (by decide +kernel) rfl rfl (Nat.le_of_ble_eq_true rfl) d_MO_end_18 (fun H locs hP hD hS => ?_)
      have hP : va_P D vwCl [(am 0, .inr (6, [.int 0, .ref (am 1), .int (nI cn), .ref (am 2), .int (nI tn), .ref (am 3), .ref (am 4), .ref (am 5), .ref (am 6), .ref (am 7), .ref (am 8), .int (nI mc), .int pl, .int tk, .int (nI fr), .int (nI tj), .ref (am 9), .int (nI dn)]))] H := hP
      have hD : va_D A [(am 0, .inr (6, [.int 0, .ref (am 1), .int (nI cn), .ref (am 2), .int (nI tn), .ref (am 3), .ref (am 4), .ref (am 5), .ref (am 6), .ref (am 7), .ref (am 8), .int (nI mc), .int pl, .int tk, .int (nI fr), .int (nI tj), .ref (am 9), .int (nI dn)]))] := hD
      refine lv_aload_n hx hb d_MO_end_21 rfl (lv_at hl 0 rfl) ?_
      refine va_get (D := D) (ci := 6) (v := .int 0) (C := R_MO) (T := F_MO) (N := 18) hx hb htT i_MO hown hK hP 0 rfl rfl 0 (by decide) (htT _ k_635) (fun _ h9 => h9) rfl d_MO_end_22 ?_
      refine lv_if_le (tgt := 30) hx hb d_MO_end_25 (by decide) (fun c_25 => ?_) (fun c_25 => ?_)
      · skip
        refine lv_aload_n hx hb d_MO_end_30 rfl (lv_at hl 0 rfl) ?_
        refine va_get (D := D) (ci := 6) (v := .int (nI cn)) (C := R_MO) (T := F_MO) (N := 18) hx hb htT i_MO hown hK hP 0 rfl rfl 2 (by decide) (htT _ k_637) (fun _ h9 => h9) rfl d_MO_end_31 ?_
        refine lv_istore_n (lv' := [(2, .int (nI cn)), (0, .ref (am 0)), (1, .int x)]) hx hb d_MO_end_34 rfl hl (by decide) rfl (fun ls hl => ?_)
        refine lv_aload_n hx hb d_MO_end_35 rfl (lv_at hl 1 rfl) ?_
        refine lv_iload_n hx hb d_MO_end_36 rfl (lv_at hl 2 rfl) ?_
        refine va_put (D := D) (ci := 6) (v := .int x) (ty := .int) (C := R_MO) (T := F_MO) (N := 18) hx hb htT i_MO t_MO t_MO_ok n_MO hown hK hP hD hS 0 rfl rfl 2 (by decide) (htT _ k_637) (fun _ h9 => h9) rfl (by decide +kernel) rfl rfl (Nat.le_of_ble_eq_true rfl) d_MO_end_37 (fun H locs hP hD hS => ?_)
        have hP : va_P D vwCl [(am 0, .inr (6, [.int 0, .ref (am 1), .int x, .ref (am 2), .int (nI tn), .ref (am 3), .ref (am 4), .ref (am 5), .ref (am 6), .ref (am 7), .ref (am 8), .int (nI mc), .int pl, .int tk, .int (nI fr), .int (nI tj), .ref (am 9), .int (nI dn)]))] H := hP
        have hD : va_D A [(am 0, .inr (6, [.int 0, .ref (am 1), .int x, .ref (am 2), .int (nI tn), .ref (am 3), .ref (am 4), .ref (am 5), .ref (am 6), .ref (am 7), .ref (am 8), .int (nI mc), .int pl, .int tk, .int (nI fr), .int (nI tj), .ref (am 9), .int (nI dn)]))] := hD
        refine lv_iload_n hx hb d_MO_end_40 rfl (lv_at hl 0 rfl) ?_
        have o_r : (nI cn) = (if x < 0 then 0 else if x ≤ nI cn then nI cn else 0) := by simp [c_2, c_10, c_25]
        have o_ft2 : (if x < 0 then 1 else if x ≤ nI cn then 0 else 1 : Int32) = 0 := by simp [c_2, c_10, c_25]
        have o_s2 : (if x < 0 then nI cn else if x ≤ nI cn then x else nI cn : Int32) = x := by simp [c_2, c_10, c_25]
        have hP9 : va_P D vwCl [(am 0, .inr (6, [.int 0, .ref (am 1), .int x, .ref (am 2), .int (nI tn), .ref (am 3), .ref (am 4), .ref (am 5), .ref (am 6), .ref (am 7), .ref (am 8), .int (nI mc), .int pl, .int tk, .int (nI fr), .int (nI tj), .ref (am 9), .int (nI dn)]))] H := hP.sub [0] rfl
        have hD9 : va_D A [(am 0, .inr (6, [.int 0, .ref (am 1), .int x, .ref (am 2), .int (nI tn), .ref (am 3), .ref (am 4), .ref (am 5), .ref (am 6), .ref (am 7), .ref (am 8), .int (nI mc), .int pl, .int tk, .int (nI fr), .int (nI tj), .ref (am 9), .int (nI dn)]))] := hD.sub [0] (by decide) rfl
        have hP9 : va_P D vwCl [(am 0, .inr (6, [.int (if x < 0 then 1 else if x ≤ nI cn then 0 else 1), .ref (am 1), .int (if x < 0 then nI cn else if x ≤ nI cn then x else nI cn), .ref (am 2), .int (nI tn), .ref (am 3), .ref (am 4), .ref (am 5), .ref (am 6), .ref (am 7), .ref (am 8), .int (nI mc), .int pl, .int tk, .int (nI fr), .int (nI tj), .ref (am 9), .int (nI dn)]))] H := by rw [o_s2, o_ft2]; exact hP9
        have hD9 : va_D A [(am 0, .inr (6, [.int (if x < 0 then 1 else if x ≤ nI cn then 0 else 1), .ref (am 1), .int (if x < 0 then nI cn else if x ≤ nI cn then x else nI cn), .ref (am 2), .int (nI tn), .ref (am 3), .ref (am 4), .ref (am 5), .ref (am 6), .ref (am 7), .ref (am 8), .int (nI mc), .int pl, .int tk, .int (nI fr), .int (nI tj), .ref (am 9), .int (nI dn)]))] := by rw [o_s2, o_ft2]; exact hD9
        exact W.iret (v := nI cn) hx hb hr (fun t ht hW => ⟨⟨_, (), rfl, o_r, by rw [ht]; exact hP9, hD9⟩, hS.F ht⟩) hS.2.2 d_MO_end_41
      · exact absurd c_25 (by decide)
    · skip
      refine lv_iconst (v := 1) hx hb d_MO_end_13 (by decide) ?_
      refine lv_goto (tgt := 18) hx hb d_MO_end_14 (by decide) ?_
      refine va_put (D := D) (ci := 6) (v := .int 1) (ty := .int) (C := R_MO) (T := F_MO) (N := 18) hx hb htT i_MO t_MO t_MO_ok n_MO hown hK hP hD hS 0 rfl rfl 0 (by decide) (htT _ k_635) (fun _ h9 => h9) rfl (by decide +kernel) rfl rfl (Nat.le_of_ble_eq_true rfl) d_MO_end_18 (fun H locs hP hD hS => ?_)
      have hP : va_P D vwCl [(am 0, .inr (6, [.int 1, .ref (am 1), .int (nI cn), .ref (am 2), .int (nI tn), .ref (am 3), .ref (am 4), .ref (am 5), .ref (am 6), .ref (am 7), .ref (am 8), .int (nI mc), .int pl, .int tk, .int (nI fr), .int (nI tj), .ref (am 9), .int (nI dn)]))] H := hP
      have hD : va_D A [(am 0, .inr (6, [.int 1, .ref (am 1), .int (nI cn), .ref (am 2), .int (nI tn), .ref (am 3), .ref (am 4), .ref (am 5), .ref (am 6), .ref (am 7), .ref (am 8), .int (nI mc), .int pl, .int tk, .int (nI fr), .int (nI tj), .ref (am 9), .int (nI dn)]))] := hD
      refine lv_aload_n hx hb d_MO_end_21 rfl (lv_at hl 0 rfl) ?_
      refine va_get (D := D) (ci := 6) (v := .int 1) (C := R_MO) (T := F_MO) (N := 18) hx hb htT i_MO hown hK hP 0 rfl rfl 0 (by decide) (htT _ k_635) (fun _ h9 => h9) rfl d_MO_end_22 ?_
      refine lv_if_le (tgt := 30) hx hb d_MO_end_25 (by decide) (fun c_25 => ?_) (fun c_25 => ?_)
      · exact absurd c_25 (by decide)
      · skip
        refine lv_iconst (v := 0) hx hb d_MO_end_28 (by decide) ?_
        have o_r : (0 : Int32) = (if x < 0 then 0 else if x ≤ nI cn then nI cn else 0) := by simp [c_2, c_10, c_25]
        have o_ft2 : (if x < 0 then 1 else if x ≤ nI cn then 0 else 1 : Int32) = 1 := by simp [c_2, c_10, c_25]
        have o_s2 : (if x < 0 then nI cn else if x ≤ nI cn then x else nI cn : Int32) = (nI cn) := by simp [c_2, c_10, c_25]
        have hP9 : va_P D vwCl [(am 0, .inr (6, [.int 1, .ref (am 1), .int (nI cn), .ref (am 2), .int (nI tn), .ref (am 3), .ref (am 4), .ref (am 5), .ref (am 6), .ref (am 7), .ref (am 8), .int (nI mc), .int pl, .int tk, .int (nI fr), .int (nI tj), .ref (am 9), .int (nI dn)]))] H := hP.sub [0] rfl
        have hD9 : va_D A [(am 0, .inr (6, [.int 1, .ref (am 1), .int (nI cn), .ref (am 2), .int (nI tn), .ref (am 3), .ref (am 4), .ref (am 5), .ref (am 6), .ref (am 7), .ref (am 8), .int (nI mc), .int pl, .int tk, .int (nI fr), .int (nI tj), .ref (am 9), .int (nI dn)]))] := hD.sub [0] (by decide) rfl
        have hP9 : va_P D vwCl [(am 0, .inr (6, [.int (if x < 0 then 1 else if x ≤ nI cn then 0 else 1), .ref (am 1), .int (if x < 0 then nI cn else if x ≤ nI cn then x else nI cn), .ref (am 2), .int (nI tn), .ref (am 3), .ref (am 4), .ref (am 5), .ref (am 6), .ref (am 7), .ref (am 8), .int (nI mc), .int pl, .int tk, .int (nI fr), .int (nI tj), .ref (am 9), .int (nI dn)]))] H := by rw [o_s2, o_ft2]; exact hP9
        have hD9 : va_D A [(am 0, .inr (6, [.int (if x < 0 then 1 else if x ≤ nI cn then 0 else 1), .ref (am 1), .int (if x < 0 then nI cn else if x ≤ nI cn then x else nI cn), .ref (am 2), .int (nI tn), .ref (am 3), .ref (am 4), .ref (am 5), .ref (am 6), .ref (am 7), .ref (am 8), .int (nI mc), .int pl, .int tk, .int (nI fr), .int (nI tj), .ref (am 9), .int (nI dn)]))] := by rw [o_s2, o_ft2]; exact hD9
        exact W.iret (v := 0) hx hb hr (fun t ht hW => ⟨⟨_, (), rfl, o_r, by rw [ht]; exact hP9, hD9⟩, hS.F ht⟩) hS.2.2 d_MO_end_29
abbrev rm_MO_change : Room := { frames := 0, cells := 0, slots := 0, locals := 0 }
abbrev q_MO_change (D : va_G) (cI cB cL : ClassId) (am : Nat → Nat) (ft : Int32) (cn tn mc : Nat) (pl tk : Int32) (fr tj dn : Nat) (g : Nat → Int32) (x b : Int32) (A : Nat → Prop) : Array Value → State → Outcome → State → Prop := va_Qi (fun r9 _ => r9 = (tt_rpA g cn x b)) (fun (_ : Unit) t => va_P D vwCl [(am 0, .inr (6, [.int 0, .ref (am 1), .int (nI cn), .ref (am 2), .int (nI tn), .ref (am 3), .ref (am 4), .ref (am 5), .ref (am 6), .ref (am 7), .ref (am 8), .int (nI mc), .int pl, .int tk, .int (nI fr), .int (nI tj), .ref (am 9), .int (nI dn)])), (am 1, .inl (cB, 16384, .inl (tt_rpF g cn x b)))] t.heap ∧ va_D A [(am 0, .inr (6, [.int 0, .ref (am 1), .int (nI cn), .ref (am 2), .int (nI tn), .ref (am 3), .ref (am 4), .ref (am 5), .ref (am 6), .ref (am 7), .ref (am 8), .int (nI mc), .int pl, .int tk, .int (nI fr), .int (nI tj), .ref (am 9), .int (nI dn)])), (am 1, .inl (cB, 16384, .inl (tt_rpF g cn x b)))]) A
set_option maxHeartbeats 4000000 in
set_option maxRecDepth 100000 in
theorem c_MO_change (l : Launch) (D : va_G) (cI cB cL : ClassId) (am : Nat → Nat) (ft : Int32) (cn tn mc : Nat) (pl tk : Int32) (fr tj dn : Nat) (g : Nat → Int32) (x b : Int32) (hn : cn ≤ 16384) (sz : Nat) : Met l y_MO_change w_MO_change rm_MO_change (va_Pc [.ref (am 0), .int x, .int b] (fun U => U.heap.size = sz ∧ va_P D vwCl [(am 0, .inr (6, [.int ft, .ref (am 1), .int (nI cn), .ref (am 2), .int (nI tn), .ref (am 3), .ref (am 4), .ref (am 5), .ref (am 6), .ref (am 7), .ref (am 8), .int (nI mc), .int pl, .int tk, .int (nI fr), .int (nI tj), .ref (am 9), .int (nI dn)])), (am 1, .inl (cB, 16384, .inl g))] U.heap ∧ va_K D vwCl (tt_ty cI cB cL) U ∧ va_D (fun _ => True) [(am 0, .inr (6, [.int ft, .ref (am 1), .int (nI cn), .ref (am 2), .int (nI tn), .ref (am 3), .ref (am 4), .ref (am 5), .ref (am 6), .ref (am 7), .ref (am 8), .int (nI mc), .int pl, .int tk, .int (nI fr), .int (nI tj), .ref (am 9), .int (nI dn)])), (am 1, .inl (cB, 16384, .inl g))])) (q_MO_change D cI cB cL am ft cn tn mc pl tk fr tj dn g x b (va_A [(am 0, .inr (6, [.int ft, .ref (am 1), .int (nI cn), .ref (am 2), .int (nI tn), .ref (am 3), .ref (am 4), .ref (am 5), .ref (am 6), .ref (am 7), .ref (am 8), .int (nI mc), .int pl, .int tk, .int (nI fr), .int (nI tj), .ref (am 9), .int (nI dn)])), (am 1, .inl (cB, 16384, .inl g))] sz)) 0 0 (va_A [(am 0, .inr (6, [.int ft, .ref (am 1), .int (nI cn), .ref (am 2), .int (nI tn), .ref (am 3), .ref (am 4), .ref (am 5), .ref (am 6), .ref (am 7), .ref (am 8), .int (nI mc), .int pl, .int tk, .int (nI fr), .int (nI tj), .ref (am 9), .int (nI dn)])), (am 1, .inl (cB, 16384, .inl g))] sz) := by
  refine Met.ofW (cc := b_MO_change) (maxL := 4) (ret := (some .int)) (by decide) rfl ?_
  intro p e s m args below meth c s₁ B hml hv
  obtain ⟨rfl, hsz, hP, hK, hD0⟩ := hv
  have hx := B.exec
  have hb := B.bytes
  have hr := B.returns
  have hts := atoms_spec (ws := w_MO_change) B.pre
  have htT : ∀ w ∈ tt_T, w.before _ s = true := fun w h => hts w (List.mem_cons_of_mem _ h)
  have hown : s.vm.findClass R_MO = some m.cls := findClass_of_methodNamed B.named
  have hlocks := B.notSynchronized
  subst hsz
  have hD := hD0.self (sz := s.heap.size)
  generalize hAe : va_A [(am 0, .inr (6, [.int ft, .ref (am 1), .int (nI cn), .ref (am 2), .int (nI tn), .ref (am 3), .ref (am 4), .ref (am 5), .ref (am 6), .ref (am 7), .ref (am 8), .int (nI mc), .int pl, .int tk, .int (nI fr), .int (nI tj), .ref (am 9), .int (nI dn)])), (am 1, .inl (cB, 16384, .inl g))] s.heap.size = A at hD ⊢
  have hA : ∀ q : Nat, s.heap.size ≤ q → A q := fun q h => by rw [← hAe]; exact Or.inr h
  have hS : va_S A s.heap s.heap [] := va_S.rf
  have hl := lv_entry ([.ref (am 0), .int x, .int b]) (n := 4) (Nat.le_of_ble_eq_true rfl)
  rw [lg_entry_eq]
  generalize (lg_sl ([.ref (am 0), .int x, .int b]) ++ List.replicate (4 - (lg_sl ([.ref (am 0), .int x, .int b])).length) Slot.unset).toArray = ls at hl ⊢
  have hl : lv_has ls 4 [(0, .ref (am 0)), (1, .int x), (2, .int b)] := hl
  have hP : va_P D vwCl [(am 0, .inr (6, [.int ft, .ref (am 1), .int (nI cn), .ref (am 2), .int (nI tn), .ref (am 3), .ref (am 4), .ref (am 5), .ref (am 6), .ref (am 7), .ref (am 8), .int (nI mc), .int pl, .int tk, .int (nI fr), .int (nI tj), .ref (am 9), .int (nI dn)])), (am 1, .inl (cB, 16384, .inl g))] s.heap := hP
  refine lv_aload_n hx hb d_MO_change_0 rfl (lv_at hl 0 rfl) ?_
  refine lv_iconst (v := 0) hx hb d_MO_change_1 (by decide) ?_
  refine va_put (D := D) (ci := 6) (v := .int 0) (ty := .int) (C := R_MO) (T := F_MO) (N := 18) hx hb htT i_MO t_MO t_MO_ok n_MO hown hK hP hD hS 0 rfl rfl 0 (by decide) (htT _ k_635) (fun _ h9 => h9) rfl (by decide +kernel) rfl rfl (Nat.le_of_ble_eq_true rfl) d_MO_change_2 (fun H locs hP hD hS => ?_)
  have hP : va_P D vwCl [(am 0, .inr (6, [.int 0, .ref (am 1), .int (nI cn), .ref (am 2), .int (nI tn), .ref (am 3), .ref (am 4), .ref (am 5), .ref (am 6), .ref (am 7), .ref (am 8), .int (nI mc), .int pl, .int tk, .int (nI fr), .int (nI tj), .ref (am 9), .int (nI dn)])), (am 1, .inl (cB, 16384, .inl g))] H := hP
  have hD : va_D A [(am 0, .inr (6, [.int 0, .ref (am 1), .int (nI cn), .ref (am 2), .int (nI tn), .ref (am 3), .ref (am 4), .ref (am 5), .ref (am 6), .ref (am 7), .ref (am 8), .int (nI mc), .int pl, .int tk, .int (nI fr), .int (nI tj), .ref (am 9), .int (nI dn)])), (am 1, .inl (cB, 16384, .inl g))] := hD
  refine lv_iload_n hx hb d_MO_change_5 rfl (lv_at hl 1 rfl) ?_
  refine lv_if_lt (tgt := 28) hx hb d_MO_change_6 (by decide) (fun c_6 => ?_) (fun c_6 => ?_)
  · skip
    refine lv_iconst (v := (-1)) hx hb d_MO_change_28 (by decide) ?_
    have o_r : ((-1) : Int32) = (tt_rpA g cn x b) := by simp [tt_rpA, c_6]
    have o_g2 : (tt_rpF g cn x b) = g := by simp [tt_rpF, c_6]
    have hP9 : va_P D vwCl [(am 0, .inr (6, [.int 0, .ref (am 1), .int (nI cn), .ref (am 2), .int (nI tn), .ref (am 3), .ref (am 4), .ref (am 5), .ref (am 6), .ref (am 7), .ref (am 8), .int (nI mc), .int pl, .int tk, .int (nI fr), .int (nI tj), .ref (am 9), .int (nI dn)])), (am 1, .inl (cB, 16384, .inl g))] H := hP.sub [0, 1] rfl
    have hD9 : va_D A [(am 0, .inr (6, [.int 0, .ref (am 1), .int (nI cn), .ref (am 2), .int (nI tn), .ref (am 3), .ref (am 4), .ref (am 5), .ref (am 6), .ref (am 7), .ref (am 8), .int (nI mc), .int pl, .int tk, .int (nI fr), .int (nI tj), .ref (am 9), .int (nI dn)])), (am 1, .inl (cB, 16384, .inl g))] := hD.sub [0, 1] (by decide) rfl
    have hP9 : va_P D vwCl [(am 0, .inr (6, [.int 0, .ref (am 1), .int (nI cn), .ref (am 2), .int (nI tn), .ref (am 3), .ref (am 4), .ref (am 5), .ref (am 6), .ref (am 7), .ref (am 8), .int (nI mc), .int pl, .int tk, .int (nI fr), .int (nI tj), .ref (am 9), .int (nI dn)])), (am 1, .inl (cB, 16384, .inl (tt_rpF g cn x b)))] H := by rw [o_g2]; exact hP9
    have hD9 : va_D A [(am 0, .inr (6, [.int 0, .ref (am 1), .int (nI cn), .ref (am 2), .int (nI tn), .ref (am 3), .ref (am 4), .ref (am 5), .ref (am 6), .ref (am 7), .ref (am 8), .int (nI mc), .int pl, .int tk, .int (nI fr), .int (nI tj), .ref (am 9), .int (nI dn)])), (am 1, .inl (cB, 16384, .inl (tt_rpF g cn x b)))] := by rw [o_g2]; exact hD9
    exact W.iret (v := (-1)) hx hb hr (fun t ht hW => ⟨⟨_, (), rfl, o_r, by rw [ht]; exact hP9, hD9⟩, hS.F ht⟩) hS.2.2 d_MO_change_29
  · skip
    refine lv_iload_n hx hb d_MO_change_9 rfl (lv_at hl 1 rfl) ?_
    refine lv_aload_n hx hb d_MO_change_10 rfl (lv_at hl 0 rfl) ?_
    refine va_get (D := D) (ci := 6) (v := .int (nI cn)) (C := R_MO) (T := F_MO) (N := 18) hx hb htT i_MO hown hK hP 0 rfl rfl 2 (by decide) (htT _ k_637) (fun _ h9 => h9) rfl d_MO_change_11 ?_
    refine lv_icmp_ge (tgt := 28) hx hb d_MO_change_14 (by decide) (fun c_14 => ?_) (fun c_14 => ?_)
    · skip
      refine lv_iconst (v := (-1)) hx hb d_MO_change_28 (by decide) ?_
      have o_r : ((-1) : Int32) = (tt_rpA g cn x b) := by simp [tt_rpA, c_6, c_14]
      have o_g2 : (tt_rpF g cn x b) = g := by simp [tt_rpF, c_6, c_14]
      have hP9 : va_P D vwCl [(am 0, .inr (6, [.int 0, .ref (am 1), .int (nI cn), .ref (am 2), .int (nI tn), .ref (am 3), .ref (am 4), .ref (am 5), .ref (am 6), .ref (am 7), .ref (am 8), .int (nI mc), .int pl, .int tk, .int (nI fr), .int (nI tj), .ref (am 9), .int (nI dn)])), (am 1, .inl (cB, 16384, .inl g))] H := hP.sub [0, 1] rfl
      have hD9 : va_D A [(am 0, .inr (6, [.int 0, .ref (am 1), .int (nI cn), .ref (am 2), .int (nI tn), .ref (am 3), .ref (am 4), .ref (am 5), .ref (am 6), .ref (am 7), .ref (am 8), .int (nI mc), .int pl, .int tk, .int (nI fr), .int (nI tj), .ref (am 9), .int (nI dn)])), (am 1, .inl (cB, 16384, .inl g))] := hD.sub [0, 1] (by decide) rfl
      have hP9 : va_P D vwCl [(am 0, .inr (6, [.int 0, .ref (am 1), .int (nI cn), .ref (am 2), .int (nI tn), .ref (am 3), .ref (am 4), .ref (am 5), .ref (am 6), .ref (am 7), .ref (am 8), .int (nI mc), .int pl, .int tk, .int (nI fr), .int (nI tj), .ref (am 9), .int (nI dn)])), (am 1, .inl (cB, 16384, .inl (tt_rpF g cn x b)))] H := by rw [o_g2]; exact hP9
      have hD9 : va_D A [(am 0, .inr (6, [.int 0, .ref (am 1), .int (nI cn), .ref (am 2), .int (nI tn), .ref (am 3), .ref (am 4), .ref (am 5), .ref (am 6), .ref (am 7), .ref (am 8), .int (nI mc), .int pl, .int tk, .int (nI fr), .int (nI tj), .ref (am 9), .int (nI dn)])), (am 1, .inl (cB, 16384, .inl (tt_rpF g cn x b)))] := by rw [o_g2]; exact hD9
      exact W.iret (v := (-1)) hx hb hr (fun t ht hW => ⟨⟨_, (), rfl, o_r, by rw [ht]; exact hP9, hD9⟩, hS.F ht⟩) hS.2.2 d_MO_change_29
    · skip
      refine lv_iload_n hx hb d_MO_change_17 rfl (lv_at hl 2 rfl) ?_
      refine lv_if_lt (tgt := 28) hx hb d_MO_change_18 (by decide) (fun c_18 => ?_) (fun c_18 => ?_)
      · skip
        refine lv_iconst (v := (-1)) hx hb d_MO_change_28 (by decide) ?_
        have o_r : ((-1) : Int32) = (tt_rpA g cn x b) := by simp [tt_rpA, c_6, c_14, c_18]
        have o_g2 : (tt_rpF g cn x b) = g := by simp [tt_rpF, c_6, c_14, c_18]
        have hP9 : va_P D vwCl [(am 0, .inr (6, [.int 0, .ref (am 1), .int (nI cn), .ref (am 2), .int (nI tn), .ref (am 3), .ref (am 4), .ref (am 5), .ref (am 6), .ref (am 7), .ref (am 8), .int (nI mc), .int pl, .int tk, .int (nI fr), .int (nI tj), .ref (am 9), .int (nI dn)])), (am 1, .inl (cB, 16384, .inl g))] H := hP.sub [0, 1] rfl
        have hD9 : va_D A [(am 0, .inr (6, [.int 0, .ref (am 1), .int (nI cn), .ref (am 2), .int (nI tn), .ref (am 3), .ref (am 4), .ref (am 5), .ref (am 6), .ref (am 7), .ref (am 8), .int (nI mc), .int pl, .int tk, .int (nI fr), .int (nI tj), .ref (am 9), .int (nI dn)])), (am 1, .inl (cB, 16384, .inl g))] := hD.sub [0, 1] (by decide) rfl
        have hP9 : va_P D vwCl [(am 0, .inr (6, [.int 0, .ref (am 1), .int (nI cn), .ref (am 2), .int (nI tn), .ref (am 3), .ref (am 4), .ref (am 5), .ref (am 6), .ref (am 7), .ref (am 8), .int (nI mc), .int pl, .int tk, .int (nI fr), .int (nI tj), .ref (am 9), .int (nI dn)])), (am 1, .inl (cB, 16384, .inl (tt_rpF g cn x b)))] H := by rw [o_g2]; exact hP9
        have hD9 : va_D A [(am 0, .inr (6, [.int 0, .ref (am 1), .int (nI cn), .ref (am 2), .int (nI tn), .ref (am 3), .ref (am 4), .ref (am 5), .ref (am 6), .ref (am 7), .ref (am 8), .int (nI mc), .int pl, .int tk, .int (nI fr), .int (nI tj), .ref (am 9), .int (nI dn)])), (am 1, .inl (cB, 16384, .inl (tt_rpF g cn x b)))] := by rw [o_g2]; exact hD9
        exact W.iret (v := (-1)) hx hb hr (fun t ht hW => ⟨⟨_, (), rfl, o_r, by rw [ht]; exact hP9, hD9⟩, hS.F ht⟩) hS.2.2 d_MO_change_29
      · skip
        refine lv_iload_n hx hb d_MO_change_21 rfl (lv_at hl 2 rfl) ?_
        refine lv_sipush (v := 255) hx hb d_MO_change_22 (by decide) ?_
        refine lv_icmp_le (tgt := 30) hx hb d_MO_change_25 (by decide) (fun c_25 => ?_) (fun c_25 => ?_)
        · skip
          refine lv_aload_n hx hb d_MO_change_30 rfl (lv_at hl 0 rfl) ?_
          refine va_get (D := D) (ci := 6) (v := .ref (am 1)) (C := R_MO) (T := F_MO) (N := 18) hx hb htT i_MO hown hK hP 0 rfl rfl 1 (by decide) (htT _ k_636) (fun _ h9 => h9) rfl d_MO_change_31 ?_
          refine lv_iload_n hx hb d_MO_change_34 rfl (lv_at hl 1 rfl) ?_
          refine va_bald (D := D) hx hb hK hP 1 1 rfl rfl (tt_vin c_6 c_14 hn (by decide)) d_MO_change_35 ?_
          refine lv_sipush (v := 255) hx hb d_MO_change_36 (by decide) ?_
          refine lv_iand hx hb d_MO_change_39 ?_
          refine lv_istore_n (lv' := [(3, .int ((g x.toNatClampNeg) &&& 255)), (0, .ref (am 0)), (1, .int x), (2, .int b)]) hx hb d_MO_change_40 rfl hl (by decide) rfl (fun ls hl => ?_)
          refine lv_aload_n hx hb d_MO_change_41 rfl (lv_at hl 1 rfl) ?_
          refine va_get (D := D) (ci := 6) (v := .ref (am 1)) (C := R_MO) (T := F_MO) (N := 18) hx hb htT i_MO hown hK hP 0 rfl rfl 1 (by decide) (htT _ k_636) (fun _ h9 => h9) rfl d_MO_change_42 ?_
          refine lv_iload_n hx hb d_MO_change_45 rfl (lv_at hl 2 rfl) ?_
          refine lv_iload_n hx hb d_MO_change_46 rfl (lv_at hl 3 rfl) ?_
          refine lv_i2b (v := b.toInt8.toInt32) hx hb d_MO_change_47 rfl ?_
          refine va_bast (D := D) hx hb hK hP hD hS 1 1 rfl rfl (tt_vin c_6 c_14 hn (by decide)) d_MO_change_48 (fun H locs hP hD hS => ?_)
          rw [pk_vb] at hP hD
          have hP : va_P D vwCl [(am 0, .inr (6, [.int 0, .ref (am 1), .int (nI cn), .ref (am 2), .int (nI tn), .ref (am 3), .ref (am 4), .ref (am 5), .ref (am 6), .ref (am 7), .ref (am 8), .int (nI mc), .int pl, .int tk, .int (nI fr), .int (nI tj), .ref (am 9), .int (nI dn)])), (am 1, .inl (cB, 16384, .inl (upd g x.toNatClampNeg b.toInt8.toInt32)))] H := hP
          have hD : va_D A [(am 0, .inr (6, [.int 0, .ref (am 1), .int (nI cn), .ref (am 2), .int (nI tn), .ref (am 3), .ref (am 4), .ref (am 5), .ref (am 6), .ref (am 7), .ref (am 8), .int (nI mc), .int pl, .int tk, .int (nI fr), .int (nI tj), .ref (am 9), .int (nI dn)])), (am 1, .inl (cB, 16384, .inl (upd g x.toNatClampNeg b.toInt8.toInt32)))] := hD
          refine lv_iload_n hx hb d_MO_change_49 rfl (lv_at hl 0 rfl) ?_
          have o_r : ((g x.toNatClampNeg) &&& 255) = (tt_rpA g cn x b) := by simp [tt_rpA, c_6, c_14, c_18, c_25]
          have o_g2 : (tt_rpF g cn x b) = (upd g x.toNatClampNeg b.toInt8.toInt32) := by simp [tt_rpF, c_6, c_14, c_18, c_25]
          have hP9 : va_P D vwCl [(am 0, .inr (6, [.int 0, .ref (am 1), .int (nI cn), .ref (am 2), .int (nI tn), .ref (am 3), .ref (am 4), .ref (am 5), .ref (am 6), .ref (am 7), .ref (am 8), .int (nI mc), .int pl, .int tk, .int (nI fr), .int (nI tj), .ref (am 9), .int (nI dn)])), (am 1, .inl (cB, 16384, .inl (upd g x.toNatClampNeg b.toInt8.toInt32)))] H := hP.sub [0, 1] rfl
          have hD9 : va_D A [(am 0, .inr (6, [.int 0, .ref (am 1), .int (nI cn), .ref (am 2), .int (nI tn), .ref (am 3), .ref (am 4), .ref (am 5), .ref (am 6), .ref (am 7), .ref (am 8), .int (nI mc), .int pl, .int tk, .int (nI fr), .int (nI tj), .ref (am 9), .int (nI dn)])), (am 1, .inl (cB, 16384, .inl (upd g x.toNatClampNeg b.toInt8.toInt32)))] := hD.sub [0, 1] (by decide) rfl
          have hP9 : va_P D vwCl [(am 0, .inr (6, [.int 0, .ref (am 1), .int (nI cn), .ref (am 2), .int (nI tn), .ref (am 3), .ref (am 4), .ref (am 5), .ref (am 6), .ref (am 7), .ref (am 8), .int (nI mc), .int pl, .int tk, .int (nI fr), .int (nI tj), .ref (am 9), .int (nI dn)])), (am 1, .inl (cB, 16384, .inl (tt_rpF g cn x b)))] H := by rw [o_g2]; exact hP9
          have hD9 : va_D A [(am 0, .inr (6, [.int 0, .ref (am 1), .int (nI cn), .ref (am 2), .int (nI tn), .ref (am 3), .ref (am 4), .ref (am 5), .ref (am 6), .ref (am 7), .ref (am 8), .int (nI mc), .int pl, .int tk, .int (nI fr), .int (nI tj), .ref (am 9), .int (nI dn)])), (am 1, .inl (cB, 16384, .inl (tt_rpF g cn x b)))] := by rw [o_g2]; exact hD9
          exact W.iret (v := (g x.toNatClampNeg) &&& 255) hx hb hr (fun t ht hW => ⟨⟨_, (), rfl, o_r, by rw [ht]; exact hP9, hD9⟩, hS.F ht⟩) hS.2.2 d_MO_change_50
        · skip
          refine lv_iconst (v := (-1)) hx hb d_MO_change_28 (by decide) ?_
          have o_r : ((-1) : Int32) = (tt_rpA g cn x b) := by simp [tt_rpA, c_6, c_14, c_18, c_25]
          have o_g2 : (tt_rpF g cn x b) = g := by simp [tt_rpF, c_6, c_14, c_18, c_25]
          have hP9 : va_P D vwCl [(am 0, .inr (6, [.int 0, .ref (am 1), .int (nI cn), .ref (am 2), .int (nI tn), .ref (am 3), .ref (am 4), .ref (am 5), .ref (am 6), .ref (am 7), .ref (am 8), .int (nI mc), .int pl, .int tk, .int (nI fr), .int (nI tj), .ref (am 9), .int (nI dn)])), (am 1, .inl (cB, 16384, .inl g))] H := hP.sub [0, 1] rfl
          have hD9 : va_D A [(am 0, .inr (6, [.int 0, .ref (am 1), .int (nI cn), .ref (am 2), .int (nI tn), .ref (am 3), .ref (am 4), .ref (am 5), .ref (am 6), .ref (am 7), .ref (am 8), .int (nI mc), .int pl, .int tk, .int (nI fr), .int (nI tj), .ref (am 9), .int (nI dn)])), (am 1, .inl (cB, 16384, .inl g))] := hD.sub [0, 1] (by decide) rfl
          have hP9 : va_P D vwCl [(am 0, .inr (6, [.int 0, .ref (am 1), .int (nI cn), .ref (am 2), .int (nI tn), .ref (am 3), .ref (am 4), .ref (am 5), .ref (am 6), .ref (am 7), .ref (am 8), .int (nI mc), .int pl, .int tk, .int (nI fr), .int (nI tj), .ref (am 9), .int (nI dn)])), (am 1, .inl (cB, 16384, .inl (tt_rpF g cn x b)))] H := by rw [o_g2]; exact hP9
          have hD9 : va_D A [(am 0, .inr (6, [.int 0, .ref (am 1), .int (nI cn), .ref (am 2), .int (nI tn), .ref (am 3), .ref (am 4), .ref (am 5), .ref (am 6), .ref (am 7), .ref (am 8), .int (nI mc), .int pl, .int tk, .int (nI fr), .int (nI tj), .ref (am 9), .int (nI dn)])), (am 1, .inl (cB, 16384, .inl (tt_rpF g cn x b)))] := by rw [o_g2]; exact hD9
          exact W.iret (v := (-1)) hx hb hr (fun t ht hW => ⟨⟨_, (), rfl, o_r, by rw [ht]; exact hP9, hD9⟩, hS.F ht⟩) hS.2.2 d_MO_change_29
abbrev rm_MO_fail : Room := { frames := 0, cells := 0, slots := 0, locals := 0 }
abbrev q_MO_fail (D : va_G) (cI cB cL : ClassId) (am : Nat → Nat) (ft : Int32) (cn tn mc : Nat) (pl tk : Int32) (fr tj dn : Nat) (A : Nat → Prop) : Array Value → State → Outcome → State → Prop := va_Qi (fun r9 _ => r9 = (tt_b false)) (fun (_ : Unit) t => va_P D vwCl [(am 0, .inr (6, [.int ft, .ref (am 1), .int (nI cn), .ref (am 2), .int (nI tn), .ref (am 3), .ref (am 4), .ref (am 5), .ref (am 6), .ref (am 7), .ref (am 8), .int (nI mc), .int (nI fr), .int tk, .int (nI fr), .int (nI tj), .ref (am 9), .int (nI dn)]))] t.heap ∧ va_D A [(am 0, .inr (6, [.int ft, .ref (am 1), .int (nI cn), .ref (am 2), .int (nI tn), .ref (am 3), .ref (am 4), .ref (am 5), .ref (am 6), .ref (am 7), .ref (am 8), .int (nI mc), .int (nI fr), .int tk, .int (nI fr), .int (nI tj), .ref (am 9), .int (nI dn)]))]) A
set_option maxHeartbeats 4000000 in
set_option maxRecDepth 100000 in
theorem c_MO_fail (l : Launch) (D : va_G) (cI cB cL : ClassId) (am : Nat → Nat) (ft : Int32) (cn tn mc : Nat) (pl tk : Int32) (fr tj dn : Nat) (sz : Nat) : Met l y_MO_fail w_MO_fail rm_MO_fail (va_Pc [.ref (am 0)] (fun U => U.heap.size = sz ∧ va_P D vwCl [(am 0, .inr (6, [.int ft, .ref (am 1), .int (nI cn), .ref (am 2), .int (nI tn), .ref (am 3), .ref (am 4), .ref (am 5), .ref (am 6), .ref (am 7), .ref (am 8), .int (nI mc), .int pl, .int tk, .int (nI fr), .int (nI tj), .ref (am 9), .int (nI dn)]))] U.heap ∧ va_K D vwCl (tt_ty cI cB cL) U ∧ va_D (fun _ => True) [(am 0, .inr (6, [.int ft, .ref (am 1), .int (nI cn), .ref (am 2), .int (nI tn), .ref (am 3), .ref (am 4), .ref (am 5), .ref (am 6), .ref (am 7), .ref (am 8), .int (nI mc), .int pl, .int tk, .int (nI fr), .int (nI tj), .ref (am 9), .int (nI dn)]))])) (q_MO_fail D cI cB cL am ft cn tn mc pl tk fr tj dn (va_A [(am 0, .inr (6, [.int ft, .ref (am 1), .int (nI cn), .ref (am 2), .int (nI tn), .ref (am 3), .ref (am 4), .ref (am 5), .ref (am 6), .ref (am 7), .ref (am 8), .int (nI mc), .int pl, .int tk, .int (nI fr), .int (nI tj), .ref (am 9), .int (nI dn)]))] sz)) 0 0 (va_A [(am 0, .inr (6, [.int ft, .ref (am 1), .int (nI cn), .ref (am 2), .int (nI tn), .ref (am 3), .ref (am 4), .ref (am 5), .ref (am 6), .ref (am 7), .ref (am 8), .int (nI mc), .int pl, .int tk, .int (nI fr), .int (nI tj), .ref (am 9), .int (nI dn)]))] sz) := by
  refine Met.ofW (cc := b_MO_fail) (maxL := 1) (ret := (some .boolean)) (by decide) rfl ?_
  intro p e s m args below meth c s₁ B hml hv
  obtain ⟨rfl, hsz, hP, hK, hD0⟩ := hv
  have hx := B.exec
  have hb := B.bytes
  have hr := B.returns
  have hts := atoms_spec (ws := w_MO_fail) B.pre
  have htT : ∀ w ∈ tt_T, w.before _ s = true := fun w h => hts w (List.mem_cons_of_mem _ h)
  have hown : s.vm.findClass R_MO = some m.cls := findClass_of_methodNamed B.named
  have hlocks := B.notSynchronized
  subst hsz
  have hD := hD0.self (sz := s.heap.size)
  generalize hAe : va_A [(am 0, .inr (6, [.int ft, .ref (am 1), .int (nI cn), .ref (am 2), .int (nI tn), .ref (am 3), .ref (am 4), .ref (am 5), .ref (am 6), .ref (am 7), .ref (am 8), .int (nI mc), .int pl, .int tk, .int (nI fr), .int (nI tj), .ref (am 9), .int (nI dn)]))] s.heap.size = A at hD ⊢
  have hA : ∀ q : Nat, s.heap.size ≤ q → A q := fun q h => by rw [← hAe]; exact Or.inr h
  have hS : va_S A s.heap s.heap [] := va_S.rf
  have hl := lv_entry ([.ref (am 0)]) (n := 1) (Nat.le_of_ble_eq_true rfl)
  rw [lg_entry_eq]
  generalize (lg_sl ([.ref (am 0)]) ++ List.replicate (1 - (lg_sl ([.ref (am 0)])).length) Slot.unset).toArray = ls at hl ⊢
  have hl : lv_has ls 1 [(0, .ref (am 0))] := hl
  have hP : va_P D vwCl [(am 0, .inr (6, [.int ft, .ref (am 1), .int (nI cn), .ref (am 2), .int (nI tn), .ref (am 3), .ref (am 4), .ref (am 5), .ref (am 6), .ref (am 7), .ref (am 8), .int (nI mc), .int pl, .int tk, .int (nI fr), .int (nI tj), .ref (am 9), .int (nI dn)]))] s.heap := hP
  refine lv_aload_n hx hb d_MO_fail_0 rfl (lv_at hl 0 rfl) ?_
  refine lv_aload_n hx hb d_MO_fail_1 rfl (lv_at hl 0 rfl) ?_
  refine va_get (D := D) (ci := 6) (v := .int (nI fr)) (C := R_MO) (T := F_MO) (N := 18) hx hb htT i_MO hown hK hP 0 rfl rfl 14 (by decide) (htT _ k_649) (fun _ h9 => h9) rfl d_MO_fail_2 ?_
  refine va_put (D := D) (ci := 6) (v := .int (nI fr)) (ty := .int) (C := R_MO) (T := F_MO) (N := 18) hx hb htT i_MO t_MO t_MO_ok n_MO hown hK hP hD hS 0 rfl rfl 12 (by decide) (htT _ k_647) (fun _ h9 => h9) rfl (by decide +kernel) rfl rfl (Nat.le_of_ble_eq_true rfl) d_MO_fail_5 (fun H locs hP hD hS => ?_)
  have hP : va_P D vwCl [(am 0, .inr (6, [.int ft, .ref (am 1), .int (nI cn), .ref (am 2), .int (nI tn), .ref (am 3), .ref (am 4), .ref (am 5), .ref (am 6), .ref (am 7), .ref (am 8), .int (nI mc), .int (nI fr), .int tk, .int (nI fr), .int (nI tj), .ref (am 9), .int (nI dn)]))] H := hP
  have hD : va_D A [(am 0, .inr (6, [.int ft, .ref (am 1), .int (nI cn), .ref (am 2), .int (nI tn), .ref (am 3), .ref (am 4), .ref (am 5), .ref (am 6), .ref (am 7), .ref (am 8), .int (nI mc), .int (nI fr), .int tk, .int (nI fr), .int (nI tj), .ref (am 9), .int (nI dn)]))] := hD
  refine lv_iconst (v := 0) hx hb d_MO_fail_8 (by decide) ?_
  have o_r : (0 : Int32) = (tt_b false) := rfl
  have hP9 : va_P D vwCl [(am 0, .inr (6, [.int ft, .ref (am 1), .int (nI cn), .ref (am 2), .int (nI tn), .ref (am 3), .ref (am 4), .ref (am 5), .ref (am 6), .ref (am 7), .ref (am 8), .int (nI mc), .int (nI fr), .int tk, .int (nI fr), .int (nI tj), .ref (am 9), .int (nI dn)]))] H := hP.sub [0] rfl
  have hD9 : va_D A [(am 0, .inr (6, [.int ft, .ref (am 1), .int (nI cn), .ref (am 2), .int (nI tn), .ref (am 3), .ref (am 4), .ref (am 5), .ref (am 6), .ref (am 7), .ref (am 8), .int (nI mc), .int (nI fr), .int tk, .int (nI fr), .int (nI tj), .ref (am 9), .int (nI dn)]))] := hD.sub [0] (by decide) rfl
  exact W.zret (ty := .boolean) (v := 0) hx hb hr (tt_nz o_r) (fun t ht hW => ⟨⟨_, (), rfl, o_r, by rw [ht]; exact hP9, hD9⟩, hS.F ht⟩) hS.2.2 d_MO_fail_9
abbrev rm_MO_isLeaf : Room := { frames := 0, cells := 0, slots := 0, locals := 0 }
abbrev q_MO_isLeaf (D : va_G) (cI cB cL : ClassId) (am : Nat → Nat) (ft : Int32) (cn tn mc : Nat) (pl tk : Int32) (fr tj dn : Nat) : Array Value → State → Outcome → State → Prop := va_Qi (fun r9 (_ : Unit) => r9 = (tt_b (decide (tk = 0) || decide (tk = 1) || decide (tk = 2)))) (fun _ _ => True) (fun _ => False)
set_option maxHeartbeats 4000000 in
set_option maxRecDepth 100000 in
theorem c_MO_isLeaf (l : Launch) (D : va_G) (cI cB cL : ClassId) (am : Nat → Nat) (ft : Int32) (cn tn mc : Nat) (pl tk : Int32) (fr tj dn : Nat) : Met l y_MO_isLeaf w_MO_isLeaf rm_MO_isLeaf (va_Pc [.ref (am 0)] (fun U => va_P D vwCl [(am 0, .inr (6, [.int ft, .ref (am 1), .int (nI cn), .ref (am 2), .int (nI tn), .ref (am 3), .ref (am 4), .ref (am 5), .ref (am 6), .ref (am 7), .ref (am 8), .int (nI mc), .int pl, .int tk, .int (nI fr), .int (nI tj), .ref (am 9), .int (nI dn)]))] U.heap ∧ va_K D vwCl (tt_ty cI cB cL) U)) (q_MO_isLeaf D cI cB cL am ft cn tn mc pl tk fr tj dn) 0 0 (fun _ => False) := by
  refine Met.ofW (cc := b_MO_isLeaf) (maxL := 1) (ret := (some .boolean)) (by decide) rfl ?_
  intro p e s m args below meth c s₁ B hml hv
  obtain ⟨rfl, hP, hK⟩ := hv
  have hx := B.exec
  have hb := B.bytes
  have hr := B.returns
  have hts := atoms_spec (ws := w_MO_isLeaf) B.pre
  have htT : ∀ w ∈ tt_T, w.before _ s = true := fun w h => hts w (List.mem_cons_of_mem _ h)
  have hown : s.vm.findClass R_MO = some m.cls := findClass_of_methodNamed B.named
  have hlocks := B.notSynchronized
  have hS : va_S (fun _ => False) s.heap s.heap [] := va_S.rf
  have hl := lv_entry ([.ref (am 0)]) (n := 1) (Nat.le_of_ble_eq_true rfl)
  rw [lg_entry_eq]
  generalize (lg_sl ([.ref (am 0)]) ++ List.replicate (1 - (lg_sl ([.ref (am 0)])).length) Slot.unset).toArray = ls at hl ⊢
  have hl : lv_has ls 1 [(0, .ref (am 0))] := hl
  have hP : va_P D vwCl [(am 0, .inr (6, [.int ft, .ref (am 1), .int (nI cn), .ref (am 2), .int (nI tn), .ref (am 3), .ref (am 4), .ref (am 5), .ref (am 6), .ref (am 7), .ref (am 8), .int (nI mc), .int pl, .int tk, .int (nI fr), .int (nI tj), .ref (am 9), .int (nI dn)]))] s.heap := hP
  refine lv_aload_n hx hb d_MO_isLeaf_0 rfl (lv_at hl 0 rfl) ?_
  refine va_get (D := D) (ci := 6) (v := .int tk) (C := R_MO) (T := F_MO) (N := 18) hx hb htT i_MO hown hK hP 0 rfl rfl 13 (by decide) (htT _ k_648) (fun _ h9 => h9) rfl d_MO_isLeaf_1 ?_
  refine lv_if_eq (tgt := 23) hx hb d_MO_isLeaf_4 (by decide) (fun c_4 => ?_) (fun c_4 => ?_)
  · skip
    refine lv_iconst (v := 1) hx hb d_MO_isLeaf_23 (by decide) ?_
    refine lv_goto (tgt := 28) hx hb d_MO_isLeaf_24 (by decide) ?_
    have o_r : (1 : Int32) = (tt_b (decide (tk = 0) || decide (tk = 1) || decide (tk = 2))) := by simp [tt_b, eq_true c_4]
    exact W.zret (ty := .boolean) (v := 1) hx hb hr (tt_nz o_r) (fun t ht hW => ⟨⟨_, (), rfl, o_r, trivial⟩, hS.F ht⟩) hS.2.2 d_MO_isLeaf_28
  · skip
    refine lv_aload_n hx hb d_MO_isLeaf_7 rfl (lv_at hl 0 rfl) ?_
    refine va_get (D := D) (ci := 6) (v := .int tk) (C := R_MO) (T := F_MO) (N := 18) hx hb htT i_MO hown hK hP 0 rfl rfl 13 (by decide) (htT _ k_648) (fun _ h9 => h9) rfl d_MO_isLeaf_8 ?_
    refine lv_iconst (v := 1) hx hb d_MO_isLeaf_11 (by decide) ?_
    refine lv_icmp_eq (tgt := 23) hx hb d_MO_isLeaf_12 (by decide) (fun c_12 => ?_) (fun c_12 => ?_)
    · skip
      refine lv_iconst (v := 1) hx hb d_MO_isLeaf_23 (by decide) ?_
      refine lv_goto (tgt := 28) hx hb d_MO_isLeaf_24 (by decide) ?_
      have o_r : (1 : Int32) = (tt_b (decide (tk = 0) || decide (tk = 1) || decide (tk = 2))) := by simp [tt_b, c_4, eq_true c_12]
      exact W.zret (ty := .boolean) (v := 1) hx hb hr (tt_nz o_r) (fun t ht hW => ⟨⟨_, (), rfl, o_r, trivial⟩, hS.F ht⟩) hS.2.2 d_MO_isLeaf_28
    · skip
      refine lv_aload_n hx hb d_MO_isLeaf_15 rfl (lv_at hl 0 rfl) ?_
      refine va_get (D := D) (ci := 6) (v := .int tk) (C := R_MO) (T := F_MO) (N := 18) hx hb htT i_MO hown hK hP 0 rfl rfl 13 (by decide) (htT _ k_648) (fun _ h9 => h9) rfl d_MO_isLeaf_16 ?_
      refine lv_iconst (v := 2) hx hb d_MO_isLeaf_19 (by decide) ?_
      refine lv_icmp_ne (tgt := 27) hx hb d_MO_isLeaf_20 (by decide) (fun c_20 => ?_) (fun c_20 => ?_)
      · skip
        refine lv_iconst (v := 0) hx hb d_MO_isLeaf_27 (by decide) ?_
        have o_r : (0 : Int32) = (tt_b (decide (tk = 0) || decide (tk = 1) || decide (tk = 2))) := by simp [tt_b, c_4, c_12, c_20]
        exact W.zret (ty := .boolean) (v := 0) hx hb hr (tt_nz o_r) (fun t ht hW => ⟨⟨_, (), rfl, o_r, trivial⟩, hS.F ht⟩) hS.2.2 d_MO_isLeaf_28
      · skip
        refine lv_iconst (v := 1) hx hb d_MO_isLeaf_23 (by decide) ?_
        refine lv_goto (tgt := 28) hx hb d_MO_isLeaf_24 (by decide) ?_
        have o_r : (1 : Int32) = (tt_b (decide (tk = 0) || decide (tk = 1) || decide (tk = 2))) := by simp [tt_b, c_4, c_12, eq_true c_20]
        exact W.zret (ty := .boolean) (v := 1) hx hb hr (tt_nz o_r) (fun t ht hW => ⟨⟨_, (), rfl, o_r, trivial⟩, hS.F ht⟩) hS.2.2 d_MO_isLeaf_28
abbrev rm_MO_isTerm : Room := { frames := 0, cells := 0, slots := 0, locals := 0 }
abbrev q_MO_isTerm (D : va_G) (cI cB cL : ClassId) (am : Nat → Nat) (ft : Int32) (cn tn mc : Nat) (pl tk : Int32) (fr tj dn : Nat) (x : Int32) (A : Nat → Prop) : Array Value → State → Outcome → State → Prop := va_Qi (fun r9 _ => r9 = (tt_b (tm_isT mc x))) (fun (_ : Unit) t => va_P D vwCl [(am 0, .inr (6, [.int 0, .ref (am 1), .int (nI cn), .ref (am 2), .int (nI tn), .ref (am 3), .ref (am 4), .ref (am 5), .ref (am 6), .ref (am 7), .ref (am 8), .int (nI mc), .int pl, .int tk, .int (nI fr), .int (nI tj), .ref (am 9), .int (nI dn)]))] t.heap ∧ va_D A [(am 0, .inr (6, [.int 0, .ref (am 1), .int (nI cn), .ref (am 2), .int (nI tn), .ref (am 3), .ref (am 4), .ref (am 5), .ref (am 6), .ref (am 7), .ref (am 8), .int (nI mc), .int pl, .int tk, .int (nI fr), .int (nI tj), .ref (am 9), .int (nI dn)]))]) A
set_option maxHeartbeats 4000000 in
set_option maxRecDepth 100000 in
theorem c_MO_isTerm (l : Launch) (D : va_G) (cI cB cL : ClassId) (am : Nat → Nat) (ft : Int32) (cn tn mc : Nat) (pl tk : Int32) (fr tj dn : Nat) (x : Int32) (sz : Nat) : Met l y_MO_isTerm w_MO_isTerm rm_MO_isTerm (va_Pc [.ref (am 0), .int x] (fun U => U.heap.size = sz ∧ va_P D vwCl [(am 0, .inr (6, [.int ft, .ref (am 1), .int (nI cn), .ref (am 2), .int (nI tn), .ref (am 3), .ref (am 4), .ref (am 5), .ref (am 6), .ref (am 7), .ref (am 8), .int (nI mc), .int pl, .int tk, .int (nI fr), .int (nI tj), .ref (am 9), .int (nI dn)]))] U.heap ∧ va_K D vwCl (tt_ty cI cB cL) U ∧ va_D (fun _ => True) [(am 0, .inr (6, [.int ft, .ref (am 1), .int (nI cn), .ref (am 2), .int (nI tn), .ref (am 3), .ref (am 4), .ref (am 5), .ref (am 6), .ref (am 7), .ref (am 8), .int (nI mc), .int pl, .int tk, .int (nI fr), .int (nI tj), .ref (am 9), .int (nI dn)]))])) (q_MO_isTerm D cI cB cL am ft cn tn mc pl tk fr tj dn x (va_A [(am 0, .inr (6, [.int ft, .ref (am 1), .int (nI cn), .ref (am 2), .int (nI tn), .ref (am 3), .ref (am 4), .ref (am 5), .ref (am 6), .ref (am 7), .ref (am 8), .int (nI mc), .int pl, .int tk, .int (nI fr), .int (nI tj), .ref (am 9), .int (nI dn)]))] sz)) 0 0 (va_A [(am 0, .inr (6, [.int ft, .ref (am 1), .int (nI cn), .ref (am 2), .int (nI tn), .ref (am 3), .ref (am 4), .ref (am 5), .ref (am 6), .ref (am 7), .ref (am 8), .int (nI mc), .int pl, .int tk, .int (nI fr), .int (nI tj), .ref (am 9), .int (nI dn)]))] sz) := by
  refine Met.ofW (cc := b_MO_isTerm) (maxL := 2) (ret := (some .boolean)) (by decide) rfl ?_
  intro p e s m args below meth c s₁ B hml hv
  obtain ⟨rfl, hsz, hP, hK, hD0⟩ := hv
  have hx := B.exec
  have hb := B.bytes
  have hr := B.returns
  have hts := atoms_spec (ws := w_MO_isTerm) B.pre
  have htT : ∀ w ∈ tt_T, w.before _ s = true := fun w h => hts w (List.mem_cons_of_mem _ h)
  have hown : s.vm.findClass R_MO = some m.cls := findClass_of_methodNamed B.named
  have hlocks := B.notSynchronized
  subst hsz
  have hD := hD0.self (sz := s.heap.size)
  generalize hAe : va_A [(am 0, .inr (6, [.int ft, .ref (am 1), .int (nI cn), .ref (am 2), .int (nI tn), .ref (am 3), .ref (am 4), .ref (am 5), .ref (am 6), .ref (am 7), .ref (am 8), .int (nI mc), .int pl, .int tk, .int (nI fr), .int (nI tj), .ref (am 9), .int (nI dn)]))] s.heap.size = A at hD ⊢
  have hA : ∀ q : Nat, s.heap.size ≤ q → A q := fun q h => by rw [← hAe]; exact Or.inr h
  have hS : va_S A s.heap s.heap [] := va_S.rf
  have hl := lv_entry ([.ref (am 0), .int x]) (n := 2) (Nat.le_of_ble_eq_true rfl)
  rw [lg_entry_eq]
  generalize (lg_sl ([.ref (am 0), .int x]) ++ List.replicate (2 - (lg_sl ([.ref (am 0), .int x])).length) Slot.unset).toArray = ls at hl ⊢
  have hl : lv_has ls 2 [(0, .ref (am 0)), (1, .int x)] := hl
  have hP : va_P D vwCl [(am 0, .inr (6, [.int ft, .ref (am 1), .int (nI cn), .ref (am 2), .int (nI tn), .ref (am 3), .ref (am 4), .ref (am 5), .ref (am 6), .ref (am 7), .ref (am 8), .int (nI mc), .int pl, .int tk, .int (nI fr), .int (nI tj), .ref (am 9), .int (nI dn)]))] s.heap := hP
  refine lv_aload_n hx hb d_MO_isTerm_0 rfl (lv_at hl 0 rfl) ?_
  refine lv_iconst (v := 0) hx hb d_MO_isTerm_1 (by decide) ?_
  refine va_put (D := D) (ci := 6) (v := .int 0) (ty := .int) (C := R_MO) (T := F_MO) (N := 18) hx hb htT i_MO t_MO t_MO_ok n_MO hown hK hP hD hS 0 rfl rfl 0 (by decide) (htT _ k_635) (fun _ h9 => h9) rfl (by decide +kernel) rfl rfl (Nat.le_of_ble_eq_true rfl) d_MO_isTerm_2 (fun H locs hP hD hS => ?_)
  have hP : va_P D vwCl [(am 0, .inr (6, [.int 0, .ref (am 1), .int (nI cn), .ref (am 2), .int (nI tn), .ref (am 3), .ref (am 4), .ref (am 5), .ref (am 6), .ref (am 7), .ref (am 8), .int (nI mc), .int pl, .int tk, .int (nI fr), .int (nI tj), .ref (am 9), .int (nI dn)]))] H := hP
  have hD : va_D A [(am 0, .inr (6, [.int 0, .ref (am 1), .int (nI cn), .ref (am 2), .int (nI tn), .ref (am 3), .ref (am 4), .ref (am 5), .ref (am 6), .ref (am 7), .ref (am 8), .int (nI mc), .int pl, .int tk, .int (nI fr), .int (nI tj), .ref (am 9), .int (nI dn)]))] := hD
  refine lv_iload_n hx hb d_MO_isTerm_5 rfl (lv_at hl 1 rfl) ?_
  refine lv_if_lt (tgt := 21) hx hb d_MO_isTerm_6 (by decide) (fun c_6 => ?_) (fun c_6 => ?_)
  · skip
    refine lv_iconst (v := 0) hx hb d_MO_isTerm_21 (by decide) ?_
    have o_r : (0 : Int32) = (tt_b (tm_isT mc x)) := by simp [tm_isT, tt_b, c_6]
    have hP9 : va_P D vwCl [(am 0, .inr (6, [.int 0, .ref (am 1), .int (nI cn), .ref (am 2), .int (nI tn), .ref (am 3), .ref (am 4), .ref (am 5), .ref (am 6), .ref (am 7), .ref (am 8), .int (nI mc), .int pl, .int tk, .int (nI fr), .int (nI tj), .ref (am 9), .int (nI dn)]))] H := hP.sub [0] rfl
    have hD9 : va_D A [(am 0, .inr (6, [.int 0, .ref (am 1), .int (nI cn), .ref (am 2), .int (nI tn), .ref (am 3), .ref (am 4), .ref (am 5), .ref (am 6), .ref (am 7), .ref (am 8), .int (nI mc), .int pl, .int tk, .int (nI fr), .int (nI tj), .ref (am 9), .int (nI dn)]))] := hD.sub [0] (by decide) rfl
    exact W.zret (ty := .boolean) (v := 0) hx hb hr (tt_nz o_r) (fun t ht hW => ⟨⟨_, (), rfl, o_r, by rw [ht]; exact hP9, hD9⟩, hS.F ht⟩) hS.2.2 d_MO_isTerm_22
  · skip
    refine lv_iload_n hx hb d_MO_isTerm_9 rfl (lv_at hl 1 rfl) ?_
    refine lv_aload_n hx hb d_MO_isTerm_10 rfl (lv_at hl 0 rfl) ?_
    refine va_get (D := D) (ci := 6) (v := .int (nI mc)) (C := R_MO) (T := F_MO) (N := 18) hx hb htT i_MO hown hK hP 0 rfl rfl 11 (by decide) (htT _ k_646) (fun _ h9 => h9) rfl d_MO_isTerm_11 ?_
    refine lv_icmp_ge (tgt := 21) hx hb d_MO_isTerm_14 (by decide) (fun c_14 => ?_) (fun c_14 => ?_)
    · skip
      refine lv_iconst (v := 0) hx hb d_MO_isTerm_21 (by decide) ?_
      have o_r : (0 : Int32) = (tt_b (tm_isT mc x)) := by simp [tm_isT, tt_b, c_6, c_14]
      have hP9 : va_P D vwCl [(am 0, .inr (6, [.int 0, .ref (am 1), .int (nI cn), .ref (am 2), .int (nI tn), .ref (am 3), .ref (am 4), .ref (am 5), .ref (am 6), .ref (am 7), .ref (am 8), .int (nI mc), .int pl, .int tk, .int (nI fr), .int (nI tj), .ref (am 9), .int (nI dn)]))] H := hP.sub [0] rfl
      have hD9 : va_D A [(am 0, .inr (6, [.int 0, .ref (am 1), .int (nI cn), .ref (am 2), .int (nI tn), .ref (am 3), .ref (am 4), .ref (am 5), .ref (am 6), .ref (am 7), .ref (am 8), .int (nI mc), .int pl, .int tk, .int (nI fr), .int (nI tj), .ref (am 9), .int (nI dn)]))] := hD.sub [0] (by decide) rfl
      exact W.zret (ty := .boolean) (v := 0) hx hb hr (tt_nz o_r) (fun t ht hW => ⟨⟨_, (), rfl, o_r, by rw [ht]; exact hP9, hD9⟩, hS.F ht⟩) hS.2.2 d_MO_isTerm_22
    · skip
      refine lv_iconst (v := 1) hx hb d_MO_isTerm_17 (by decide) ?_
      refine lv_goto (tgt := 22) hx hb d_MO_isTerm_18 (by decide) ?_
      have o_r : (1 : Int32) = (tt_b (tm_isT mc x)) := by simp [tm_isT, tt_b, c_6, c_14]
      have hP9 : va_P D vwCl [(am 0, .inr (6, [.int 0, .ref (am 1), .int (nI cn), .ref (am 2), .int (nI tn), .ref (am 3), .ref (am 4), .ref (am 5), .ref (am 6), .ref (am 7), .ref (am 8), .int (nI mc), .int pl, .int tk, .int (nI fr), .int (nI tj), .ref (am 9), .int (nI dn)]))] H := hP.sub [0] rfl
      have hD9 : va_D A [(am 0, .inr (6, [.int 0, .ref (am 1), .int (nI cn), .ref (am 2), .int (nI tn), .ref (am 3), .ref (am 4), .ref (am 5), .ref (am 6), .ref (am 7), .ref (am 8), .int (nI mc), .int pl, .int tk, .int (nI fr), .int (nI tj), .ref (am 9), .int (nI dn)]))] := hD.sub [0] (by decide) rfl
      exact W.zret (ty := .boolean) (v := 1) hx hb hr (tt_nz o_r) (fun t ht hW => ⟨⟨_, (), rfl, o_r, by rw [ht]; exact hP9, hD9⟩, hS.F ht⟩) hS.2.2 d_MO_isTerm_22
abbrev rm_MO_isKind : Room := { frames := 1, cells := 0, slots := 0, locals := 21 }
abbrev q_MO_isKind (D : va_G) (cI cB cL : ClassId) (am : Nat → Nat) (ft : Int32) (cn tn mc : Nat) (pl tk : Int32) (fr tj dn : Nat) (q : Nat → Nat → Int32) (x k : Int32) (A : Nat → Prop) : Array Value → State → Outcome → State → Prop := va_Qi (fun r9 _ => r9 = (tt_b (tm_isT mc x && decide (q 0 x.toNatClampNeg = k)))) (fun (_ : Unit) t => va_P D vwCl [(am 0, .inr (6, [.int 0, .ref (am 1), .int (nI cn), .ref (am 2), .int (nI tn), .ref (am 3), .ref (am 4), .ref (am 5), .ref (am 6), .ref (am 7), .ref (am 8), .int (nI mc), .int pl, .int tk, .int (nI fr), .int (nI tj), .ref (am 9), .int (nI dn)])), (am 3, .inl (cB, 4096, .inl (q 0))), (am 4, .inl (cI, 4096, .inl (q 1))), (am 5, .inl (cI, 4096, .inl (q 2))), (am 6, .inl (cI, 4096, .inl (q 3))), (am 7, .inl (cI, 4096, .inl (q 4))), (am 8, .inl (cI, 4096, .inl (q 5)))] t.heap ∧ va_D A [(am 0, .inr (6, [.int 0, .ref (am 1), .int (nI cn), .ref (am 2), .int (nI tn), .ref (am 3), .ref (am 4), .ref (am 5), .ref (am 6), .ref (am 7), .ref (am 8), .int (nI mc), .int pl, .int tk, .int (nI fr), .int (nI tj), .ref (am 9), .int (nI dn)])), (am 3, .inl (cB, 4096, .inl (q 0))), (am 4, .inl (cI, 4096, .inl (q 1))), (am 5, .inl (cI, 4096, .inl (q 2))), (am 6, .inl (cI, 4096, .inl (q 3))), (am 7, .inl (cI, 4096, .inl (q 4))), (am 8, .inl (cI, 4096, .inl (q 5)))]) A
set_option maxHeartbeats 4000000 in
set_option maxRecDepth 100000 in
theorem c_MO_isKind (l : Launch) (D : va_G) (cI cB cL : ClassId) (am : Nat → Nat) (ft : Int32) (cn tn mc : Nat) (pl tk : Int32) (fr tj dn : Nat) (q : Nat → Nat → Int32) (x k : Int32) (hm : mc ≤ 4096) (sz : Nat) : Met l y_MO_isKind w_MO_isKind rm_MO_isKind (va_Pc [.ref (am 0), .int x, .int k] (fun U => U.heap.size = sz ∧ va_P D vwCl [(am 0, .inr (6, [.int ft, .ref (am 1), .int (nI cn), .ref (am 2), .int (nI tn), .ref (am 3), .ref (am 4), .ref (am 5), .ref (am 6), .ref (am 7), .ref (am 8), .int (nI mc), .int pl, .int tk, .int (nI fr), .int (nI tj), .ref (am 9), .int (nI dn)])), (am 3, .inl (cB, 4096, .inl (q 0))), (am 4, .inl (cI, 4096, .inl (q 1))), (am 5, .inl (cI, 4096, .inl (q 2))), (am 6, .inl (cI, 4096, .inl (q 3))), (am 7, .inl (cI, 4096, .inl (q 4))), (am 8, .inl (cI, 4096, .inl (q 5)))] U.heap ∧ va_K D vwCl (tt_ty cI cB cL) U ∧ va_D (fun _ => True) [(am 0, .inr (6, [.int ft, .ref (am 1), .int (nI cn), .ref (am 2), .int (nI tn), .ref (am 3), .ref (am 4), .ref (am 5), .ref (am 6), .ref (am 7), .ref (am 8), .int (nI mc), .int pl, .int tk, .int (nI fr), .int (nI tj), .ref (am 9), .int (nI dn)])), (am 3, .inl (cB, 4096, .inl (q 0))), (am 4, .inl (cI, 4096, .inl (q 1))), (am 5, .inl (cI, 4096, .inl (q 2))), (am 6, .inl (cI, 4096, .inl (q 3))), (am 7, .inl (cI, 4096, .inl (q 4))), (am 8, .inl (cI, 4096, .inl (q 5)))])) (q_MO_isKind D cI cB cL am ft cn tn mc pl tk fr tj dn q x k (va_A [(am 0, .inr (6, [.int ft, .ref (am 1), .int (nI cn), .ref (am 2), .int (nI tn), .ref (am 3), .ref (am 4), .ref (am 5), .ref (am 6), .ref (am 7), .ref (am 8), .int (nI mc), .int pl, .int tk, .int (nI fr), .int (nI tj), .ref (am 9), .int (nI dn)])), (am 3, .inl (cB, 4096, .inl (q 0))), (am 4, .inl (cI, 4096, .inl (q 1))), (am 5, .inl (cI, 4096, .inl (q 2))), (am 6, .inl (cI, 4096, .inl (q 3))), (am 7, .inl (cI, 4096, .inl (q 4))), (am 8, .inl (cI, 4096, .inl (q 5)))] sz)) 0 0 (va_A [(am 0, .inr (6, [.int ft, .ref (am 1), .int (nI cn), .ref (am 2), .int (nI tn), .ref (am 3), .ref (am 4), .ref (am 5), .ref (am 6), .ref (am 7), .ref (am 8), .int (nI mc), .int pl, .int tk, .int (nI fr), .int (nI tj), .ref (am 9), .int (nI dn)])), (am 3, .inl (cB, 4096, .inl (q 0))), (am 4, .inl (cI, 4096, .inl (q 1))), (am 5, .inl (cI, 4096, .inl (q 2))), (am 6, .inl (cI, 4096, .inl (q 3))), (am 7, .inl (cI, 4096, .inl (q 4))), (am 8, .inl (cI, 4096, .inl (q 5)))] sz) := by
  refine Met.ofW (cc := b_MO_isKind) (maxL := 3) (ret := (some .boolean)) (by decide) rfl ?_
  intro p e s m args below meth c s₁ B hml hv
  obtain ⟨rfl, hsz, hP, hK, hD0⟩ := hv
  have hx := B.exec
  have hb := B.bytes
  have hr := B.returns
  have hts := atoms_spec (ws := w_MO_isKind) B.pre
  have htT : ∀ w ∈ tt_T, w.before _ s = true := fun w h => hts w (List.mem_cons_of_mem _ h)
  have hown : s.vm.findClass R_MO = some m.cls := findClass_of_methodNamed B.named
  have hlocks := B.notSynchronized
  subst hsz
  have hD := hD0.self (sz := s.heap.size)
  generalize hAe : va_A [(am 0, .inr (6, [.int ft, .ref (am 1), .int (nI cn), .ref (am 2), .int (nI tn), .ref (am 3), .ref (am 4), .ref (am 5), .ref (am 6), .ref (am 7), .ref (am 8), .int (nI mc), .int pl, .int tk, .int (nI fr), .int (nI tj), .ref (am 9), .int (nI dn)])), (am 3, .inl (cB, 4096, .inl (q 0))), (am 4, .inl (cI, 4096, .inl (q 1))), (am 5, .inl (cI, 4096, .inl (q 2))), (am 6, .inl (cI, 4096, .inl (q 3))), (am 7, .inl (cI, 4096, .inl (q 4))), (am 8, .inl (cI, 4096, .inl (q 5)))] s.heap.size = A at hD ⊢
  have hA : ∀ q : Nat, s.heap.size ≤ q → A q := fun q h => by rw [← hAe]; exact Or.inr h
  have hS : va_S A s.heap s.heap [] := va_S.rf
  have hl := lv_entry ([.ref (am 0), .int x, .int k]) (n := 3) (Nat.le_of_ble_eq_true rfl)
  rw [lg_entry_eq]
  generalize (lg_sl ([.ref (am 0), .int x, .int k]) ++ List.replicate (3 - (lg_sl ([.ref (am 0), .int x, .int k])).length) Slot.unset).toArray = ls at hl ⊢
  have hl : lv_has ls 3 [(0, .ref (am 0)), (1, .int x), (2, .int k)] := hl
  have hP : va_P D vwCl [(am 0, .inr (6, [.int ft, .ref (am 1), .int (nI cn), .ref (am 2), .int (nI tn), .ref (am 3), .ref (am 4), .ref (am 5), .ref (am 6), .ref (am 7), .ref (am 8), .int (nI mc), .int pl, .int tk, .int (nI fr), .int (nI tj), .ref (am 9), .int (nI dn)])), (am 3, .inl (cB, 4096, .inl (q 0))), (am 4, .inl (cI, 4096, .inl (q 1))), (am 5, .inl (cI, 4096, .inl (q 2))), (am 6, .inl (cI, 4096, .inl (q 3))), (am 7, .inl (cI, 4096, .inl (q 4))), (am 8, .inl (cI, 4096, .inl (q 5)))] s.heap := hP
  refine lv_aload_n hx hb d_MO_isKind_0 rfl (lv_at hl 0 rfl) ?_
  refine lv_iload_n hx hb d_MO_isKind_1 rfl (lv_at hl 1 rfl) ?_
  refine tt_muI (wr := [(am 3, .inl (cB, 4096, .inl (q 0))), (am 4, .inl (cI, 4096, .inl (q 1))), (am 5, .inl (cI, 4096, .inl (q 2))), (am 6, .inl (cI, 4096, .inl (q 3))), (am 7, .inl (cI, 4096, .inl (q 4))), (am 8, .inl (cI, 4096, .inl (q 5)))]) (va_runV (As := [.int x]) (rest := []) ⟨hx, hb, hml, hown, hts⟩ (c_MO_isTerm l D cI cB cL am ft cn tn mc pl tk fr tj dn x _) (cwV 1 hts (tt_gV k_792 k_794 ks_36 k_7 k_795) rfl rfl rfl hv_MO_isTerm ⟨Nat.le_of_ble_eq_true rfl, Nat.le_of_ble_eq_true rfl⟩) (tt_mupreV (w := [(am 0, .inr (6, [.int ft, .ref (am 1), .int (nI cn), .ref (am 2), .int (nI tn), .ref (am 3), .ref (am 4), .ref (am 5), .ref (am 6), .ref (am 7), .ref (am 8), .int (nI mc), .int pl, .int tk, .int (nI fr), .int (nI tj), .ref (am 9), .int (nI dn)]))]) hK hP hD [0] rfl (by decide) rfl (va_recv hK hP (ci := 6) (q0 := 0) rfl rfl)) rfl rfl hl.1 rfl (lv_room (Nat.le_of_ble_eq_true rfl)) d_MO_isKind_2 ⟨Nat.zero_le _, Nat.zero_le _⟩) hS hP hD hA [0] [1, 2, 3, 4, 5, 6] rfl rfl (by decide) (by decide) (fun H locs hP hD hS => ?_)
  have hP : va_P D vwCl [(am 3, .inl (cB, 4096, .inl (q 0))), (am 4, .inl (cI, 4096, .inl (q 1))), (am 5, .inl (cI, 4096, .inl (q 2))), (am 6, .inl (cI, 4096, .inl (q 3))), (am 7, .inl (cI, 4096, .inl (q 4))), (am 8, .inl (cI, 4096, .inl (q 5))), (am 0, .inr (6, [.int 0, .ref (am 1), .int (nI cn), .ref (am 2), .int (nI tn), .ref (am 3), .ref (am 4), .ref (am 5), .ref (am 6), .ref (am 7), .ref (am 8), .int (nI mc), .int pl, .int tk, .int (nI fr), .int (nI tj), .ref (am 9), .int (nI dn)]))] H := hP
  have hD : va_D A [(am 3, .inl (cB, 4096, .inl (q 0))), (am 4, .inl (cI, 4096, .inl (q 1))), (am 5, .inl (cI, 4096, .inl (q 2))), (am 6, .inl (cI, 4096, .inl (q 3))), (am 7, .inl (cI, 4096, .inl (q 4))), (am 8, .inl (cI, 4096, .inl (q 5))), (am 0, .inr (6, [.int 0, .ref (am 1), .int (nI cn), .ref (am 2), .int (nI tn), .ref (am 3), .ref (am 4), .ref (am 5), .ref (am 6), .ref (am 7), .ref (am 8), .int (nI mc), .int pl, .int tk, .int (nI fr), .int (nI tj), .ref (am 9), .int (nI dn)]))] := hD
  refine lv_if_eq (tgt := 22) hx hb d_MO_isKind_5 (by decide) (fun c_5 => ?_) (fun c_5 => ?_)
  · have c_5 := tt_b0.mp c_5
    refine lv_iconst (v := 0) hx hb d_MO_isKind_22 (by decide) ?_
    have o_r : (0 : Int32) = (tt_b (tm_isT mc x && decide (q 0 x.toNatClampNeg = k))) := by simp [tt_b, c_5]
    have hP9 : va_P D vwCl [(am 0, .inr (6, [.int 0, .ref (am 1), .int (nI cn), .ref (am 2), .int (nI tn), .ref (am 3), .ref (am 4), .ref (am 5), .ref (am 6), .ref (am 7), .ref (am 8), .int (nI mc), .int pl, .int tk, .int (nI fr), .int (nI tj), .ref (am 9), .int (nI dn)])), (am 3, .inl (cB, 4096, .inl (q 0))), (am 4, .inl (cI, 4096, .inl (q 1))), (am 5, .inl (cI, 4096, .inl (q 2))), (am 6, .inl (cI, 4096, .inl (q 3))), (am 7, .inl (cI, 4096, .inl (q 4))), (am 8, .inl (cI, 4096, .inl (q 5)))] H := hP.sub [6, 0, 1, 2, 3, 4, 5] rfl
    have hD9 : va_D A [(am 0, .inr (6, [.int 0, .ref (am 1), .int (nI cn), .ref (am 2), .int (nI tn), .ref (am 3), .ref (am 4), .ref (am 5), .ref (am 6), .ref (am 7), .ref (am 8), .int (nI mc), .int pl, .int tk, .int (nI fr), .int (nI tj), .ref (am 9), .int (nI dn)])), (am 3, .inl (cB, 4096, .inl (q 0))), (am 4, .inl (cI, 4096, .inl (q 1))), (am 5, .inl (cI, 4096, .inl (q 2))), (am 6, .inl (cI, 4096, .inl (q 3))), (am 7, .inl (cI, 4096, .inl (q 4))), (am 8, .inl (cI, 4096, .inl (q 5)))] := hD.sub [6, 0, 1, 2, 3, 4, 5] (by decide) rfl
    exact W.zret (ty := .boolean) (v := 0) hx hb hr (tt_nz o_r) (fun t ht hW => ⟨⟨_, (), rfl, o_r, by rw [ht]; exact hP9, hD9⟩, hS.F ht⟩) hS.2.2 d_MO_isKind_23
  · have c_5 := tt_bn0.mp c_5
    have hv9 := tm_isT_t c_5
    refine lv_aload_n hx hb d_MO_isKind_8 rfl (lv_at hl 0 rfl) ?_
    refine va_get (D := D) (ci := 6) (v := .ref (am 3)) (C := R_MO) (T := F_MO) (N := 18) hx hb htT i_MO hown hK hP 6 rfl rfl 5 (by decide) (htT _ k_640) (fun _ h9 => h9) rfl d_MO_isKind_9 ?_
    refine lv_iload_n hx hb d_MO_isKind_12 rfl (lv_at hl 1 rfl) ?_
    refine va_bald (D := D) hx hb hK hP 0 1 rfl rfl (tm_isv hv9.1 hv9.2 hm) d_MO_isKind_13 ?_
    refine lv_iload_n hx hb d_MO_isKind_14 rfl (lv_at hl 2 rfl) ?_
    refine lv_icmp_ne (tgt := 22) hx hb d_MO_isKind_15 (by decide) (fun c_15 => ?_) (fun c_15 => ?_)
    · skip
      refine lv_iconst (v := 0) hx hb d_MO_isKind_22 (by decide) ?_
      have o_r : (0 : Int32) = (tt_b (tm_isT mc x && decide (q 0 x.toNatClampNeg = k))) := by simp [tt_b, c_5, c_15]
      have hP9 : va_P D vwCl [(am 0, .inr (6, [.int 0, .ref (am 1), .int (nI cn), .ref (am 2), .int (nI tn), .ref (am 3), .ref (am 4), .ref (am 5), .ref (am 6), .ref (am 7), .ref (am 8), .int (nI mc), .int pl, .int tk, .int (nI fr), .int (nI tj), .ref (am 9), .int (nI dn)])), (am 3, .inl (cB, 4096, .inl (q 0))), (am 4, .inl (cI, 4096, .inl (q 1))), (am 5, .inl (cI, 4096, .inl (q 2))), (am 6, .inl (cI, 4096, .inl (q 3))), (am 7, .inl (cI, 4096, .inl (q 4))), (am 8, .inl (cI, 4096, .inl (q 5)))] H := hP.sub [6, 0, 1, 2, 3, 4, 5] rfl
      have hD9 : va_D A [(am 0, .inr (6, [.int 0, .ref (am 1), .int (nI cn), .ref (am 2), .int (nI tn), .ref (am 3), .ref (am 4), .ref (am 5), .ref (am 6), .ref (am 7), .ref (am 8), .int (nI mc), .int pl, .int tk, .int (nI fr), .int (nI tj), .ref (am 9), .int (nI dn)])), (am 3, .inl (cB, 4096, .inl (q 0))), (am 4, .inl (cI, 4096, .inl (q 1))), (am 5, .inl (cI, 4096, .inl (q 2))), (am 6, .inl (cI, 4096, .inl (q 3))), (am 7, .inl (cI, 4096, .inl (q 4))), (am 8, .inl (cI, 4096, .inl (q 5)))] := hD.sub [6, 0, 1, 2, 3, 4, 5] (by decide) rfl
      exact W.zret (ty := .boolean) (v := 0) hx hb hr (tt_nz o_r) (fun t ht hW => ⟨⟨_, (), rfl, o_r, by rw [ht]; exact hP9, hD9⟩, hS.F ht⟩) hS.2.2 d_MO_isKind_23
    · skip
      refine lv_iconst (v := 1) hx hb d_MO_isKind_18 (by decide) ?_
      refine lv_goto (tgt := 23) hx hb d_MO_isKind_19 (by decide) ?_
      have o_r : (1 : Int32) = (tt_b (tm_isT mc x && decide (q 0 x.toNatClampNeg = k))) := by simp [tt_b, c_5, eq_true c_15]
      have hP9 : va_P D vwCl [(am 0, .inr (6, [.int 0, .ref (am 1), .int (nI cn), .ref (am 2), .int (nI tn), .ref (am 3), .ref (am 4), .ref (am 5), .ref (am 6), .ref (am 7), .ref (am 8), .int (nI mc), .int pl, .int tk, .int (nI fr), .int (nI tj), .ref (am 9), .int (nI dn)])), (am 3, .inl (cB, 4096, .inl (q 0))), (am 4, .inl (cI, 4096, .inl (q 1))), (am 5, .inl (cI, 4096, .inl (q 2))), (am 6, .inl (cI, 4096, .inl (q 3))), (am 7, .inl (cI, 4096, .inl (q 4))), (am 8, .inl (cI, 4096, .inl (q 5)))] H := hP.sub [6, 0, 1, 2, 3, 4, 5] rfl
      have hD9 : va_D A [(am 0, .inr (6, [.int 0, .ref (am 1), .int (nI cn), .ref (am 2), .int (nI tn), .ref (am 3), .ref (am 4), .ref (am 5), .ref (am 6), .ref (am 7), .ref (am 8), .int (nI mc), .int pl, .int tk, .int (nI fr), .int (nI tj), .ref (am 9), .int (nI dn)])), (am 3, .inl (cB, 4096, .inl (q 0))), (am 4, .inl (cI, 4096, .inl (q 1))), (am 5, .inl (cI, 4096, .inl (q 2))), (am 6, .inl (cI, 4096, .inl (q 3))), (am 7, .inl (cI, 4096, .inl (q 4))), (am 8, .inl (cI, 4096, .inl (q 5)))] := hD.sub [6, 0, 1, 2, 3, 4, 5] (by decide) rfl
      exact W.zret (ty := .boolean) (v := 1) hx hb hr (tt_nz o_r) (fun t ht hW => ⟨⟨_, (), rfl, o_r, by rw [ht]; exact hP9, hD9⟩, hS.F ht⟩) hS.2.2 d_MO_isKind_23
abbrev rm_MO_count : Room := { frames := 0, cells := 0, slots := 0, locals := 0 }
abbrev q_MO_count (D : va_G) (cI cB cL : ClassId) (am : Nat → Nat) (ft : Int32) (cn tn mc : Nat) (pl tk : Int32) (fr tj dn : Nat) (A : Nat → Prop) : Array Value → State → Outcome → State → Prop := va_Qi (fun r9 _ => r9 = (nI mc)) (fun (_ : Unit) t => va_P D vwCl [(am 0, .inr (6, [.int 0, .ref (am 1), .int (nI cn), .ref (am 2), .int (nI tn), .ref (am 3), .ref (am 4), .ref (am 5), .ref (am 6), .ref (am 7), .ref (am 8), .int (nI mc), .int pl, .int tk, .int (nI fr), .int (nI tj), .ref (am 9), .int (nI dn)]))] t.heap ∧ va_D A [(am 0, .inr (6, [.int 0, .ref (am 1), .int (nI cn), .ref (am 2), .int (nI tn), .ref (am 3), .ref (am 4), .ref (am 5), .ref (am 6), .ref (am 7), .ref (am 8), .int (nI mc), .int pl, .int tk, .int (nI fr), .int (nI tj), .ref (am 9), .int (nI dn)]))]) A
set_option maxHeartbeats 4000000 in
set_option maxRecDepth 100000 in
theorem c_MO_count (l : Launch) (D : va_G) (cI cB cL : ClassId) (am : Nat → Nat) (ft : Int32) (cn tn mc : Nat) (pl tk : Int32) (fr tj dn : Nat) (sz : Nat) : Met l y_MO_count w_MO_count rm_MO_count (va_Pc [.ref (am 0)] (fun U => U.heap.size = sz ∧ va_P D vwCl [(am 0, .inr (6, [.int ft, .ref (am 1), .int (nI cn), .ref (am 2), .int (nI tn), .ref (am 3), .ref (am 4), .ref (am 5), .ref (am 6), .ref (am 7), .ref (am 8), .int (nI mc), .int pl, .int tk, .int (nI fr), .int (nI tj), .ref (am 9), .int (nI dn)]))] U.heap ∧ va_K D vwCl (tt_ty cI cB cL) U ∧ va_D (fun _ => True) [(am 0, .inr (6, [.int ft, .ref (am 1), .int (nI cn), .ref (am 2), .int (nI tn), .ref (am 3), .ref (am 4), .ref (am 5), .ref (am 6), .ref (am 7), .ref (am 8), .int (nI mc), .int pl, .int tk, .int (nI fr), .int (nI tj), .ref (am 9), .int (nI dn)]))])) (q_MO_count D cI cB cL am ft cn tn mc pl tk fr tj dn (va_A [(am 0, .inr (6, [.int ft, .ref (am 1), .int (nI cn), .ref (am 2), .int (nI tn), .ref (am 3), .ref (am 4), .ref (am 5), .ref (am 6), .ref (am 7), .ref (am 8), .int (nI mc), .int pl, .int tk, .int (nI fr), .int (nI tj), .ref (am 9), .int (nI dn)]))] sz)) 0 0 (va_A [(am 0, .inr (6, [.int ft, .ref (am 1), .int (nI cn), .ref (am 2), .int (nI tn), .ref (am 3), .ref (am 4), .ref (am 5), .ref (am 6), .ref (am 7), .ref (am 8), .int (nI mc), .int pl, .int tk, .int (nI fr), .int (nI tj), .ref (am 9), .int (nI dn)]))] sz) := by
  refine Met.ofW (cc := b_MO_count) (maxL := 1) (ret := (some .int)) (by decide) rfl ?_
  intro p e s m args below meth c s₁ B hml hv
  obtain ⟨rfl, hsz, hP, hK, hD0⟩ := hv
  have hx := B.exec
  have hb := B.bytes
  have hr := B.returns
  have hts := atoms_spec (ws := w_MO_count) B.pre
  have htT : ∀ w ∈ tt_T, w.before _ s = true := fun w h => hts w (List.mem_cons_of_mem _ h)
  have hown : s.vm.findClass R_MO = some m.cls := findClass_of_methodNamed B.named
  have hlocks := B.notSynchronized
  subst hsz
  have hD := hD0.self (sz := s.heap.size)
  generalize hAe : va_A [(am 0, .inr (6, [.int ft, .ref (am 1), .int (nI cn), .ref (am 2), .int (nI tn), .ref (am 3), .ref (am 4), .ref (am 5), .ref (am 6), .ref (am 7), .ref (am 8), .int (nI mc), .int pl, .int tk, .int (nI fr), .int (nI tj), .ref (am 9), .int (nI dn)]))] s.heap.size = A at hD ⊢
  have hA : ∀ q : Nat, s.heap.size ≤ q → A q := fun q h => by rw [← hAe]; exact Or.inr h
  have hS : va_S A s.heap s.heap [] := va_S.rf
  have hl := lv_entry ([.ref (am 0)]) (n := 1) (Nat.le_of_ble_eq_true rfl)
  rw [lg_entry_eq]
  generalize (lg_sl ([.ref (am 0)]) ++ List.replicate (1 - (lg_sl ([.ref (am 0)])).length) Slot.unset).toArray = ls at hl ⊢
  have hl : lv_has ls 1 [(0, .ref (am 0))] := hl
  have hP : va_P D vwCl [(am 0, .inr (6, [.int ft, .ref (am 1), .int (nI cn), .ref (am 2), .int (nI tn), .ref (am 3), .ref (am 4), .ref (am 5), .ref (am 6), .ref (am 7), .ref (am 8), .int (nI mc), .int pl, .int tk, .int (nI fr), .int (nI tj), .ref (am 9), .int (nI dn)]))] s.heap := hP
  refine lv_aload_n hx hb d_MO_count_0 rfl (lv_at hl 0 rfl) ?_
  refine lv_iconst (v := 0) hx hb d_MO_count_1 (by decide) ?_
  refine va_put (D := D) (ci := 6) (v := .int 0) (ty := .int) (C := R_MO) (T := F_MO) (N := 18) hx hb htT i_MO t_MO t_MO_ok n_MO hown hK hP hD hS 0 rfl rfl 0 (by decide) (htT _ k_635) (fun _ h9 => h9) rfl (by decide +kernel) rfl rfl (Nat.le_of_ble_eq_true rfl) d_MO_count_2 (fun H locs hP hD hS => ?_)
  have hP : va_P D vwCl [(am 0, .inr (6, [.int 0, .ref (am 1), .int (nI cn), .ref (am 2), .int (nI tn), .ref (am 3), .ref (am 4), .ref (am 5), .ref (am 6), .ref (am 7), .ref (am 8), .int (nI mc), .int pl, .int tk, .int (nI fr), .int (nI tj), .ref (am 9), .int (nI dn)]))] H := hP
  have hD : va_D A [(am 0, .inr (6, [.int 0, .ref (am 1), .int (nI cn), .ref (am 2), .int (nI tn), .ref (am 3), .ref (am 4), .ref (am 5), .ref (am 6), .ref (am 7), .ref (am 8), .int (nI mc), .int pl, .int tk, .int (nI fr), .int (nI tj), .ref (am 9), .int (nI dn)]))] := hD
  refine lv_aload_n hx hb d_MO_count_5 rfl (lv_at hl 0 rfl) ?_
  refine va_get (D := D) (ci := 6) (v := .int (nI mc)) (C := R_MO) (T := F_MO) (N := 18) hx hb htT i_MO hown hK hP 0 rfl rfl 11 (by decide) (htT _ k_646) (fun _ h9 => h9) rfl d_MO_count_6 ?_
  have o_r : (nI mc) = (nI mc) := rfl
  have hP9 : va_P D vwCl [(am 0, .inr (6, [.int 0, .ref (am 1), .int (nI cn), .ref (am 2), .int (nI tn), .ref (am 3), .ref (am 4), .ref (am 5), .ref (am 6), .ref (am 7), .ref (am 8), .int (nI mc), .int pl, .int tk, .int (nI fr), .int (nI tj), .ref (am 9), .int (nI dn)]))] H := hP.sub [0] rfl
  have hD9 : va_D A [(am 0, .inr (6, [.int 0, .ref (am 1), .int (nI cn), .ref (am 2), .int (nI tn), .ref (am 3), .ref (am 4), .ref (am 5), .ref (am 6), .ref (am 7), .ref (am 8), .int (nI mc), .int pl, .int tk, .int (nI fr), .int (nI tj), .ref (am 9), .int (nI dn)]))] := hD.sub [0] (by decide) rfl
  exact W.iret (v := nI mc) hx hb hr (fun t ht hW => ⟨⟨_, (), rfl, o_r, by rw [ht]; exact hP9, hD9⟩, hS.F ht⟩) hS.2.2 d_MO_count_9
abbrev rm_MO_kind : Room := { frames := 1, cells := 0, slots := 0, locals := 21 }
abbrev q_MO_kind (D : va_G) (cI cB cL : ClassId) (am : Nat → Nat) (ft : Int32) (cn tn mc : Nat) (pl tk : Int32) (fr tj dn : Nat) (q : Nat → Nat → Int32) (x : Int32) (A : Nat → Prop) : Array Value → State → Outcome → State → Prop := va_Qi (fun r9 _ => r9 = (if tm_isT mc x = true then q 0 x.toNatClampNeg else -1)) (fun (_ : Unit) t => va_P D vwCl [(am 0, .inr (6, [.int 0, .ref (am 1), .int (nI cn), .ref (am 2), .int (nI tn), .ref (am 3), .ref (am 4), .ref (am 5), .ref (am 6), .ref (am 7), .ref (am 8), .int (nI mc), .int pl, .int tk, .int (nI fr), .int (nI tj), .ref (am 9), .int (nI dn)])), (am 3, .inl (cB, 4096, .inl (q 0))), (am 4, .inl (cI, 4096, .inl (q 1))), (am 5, .inl (cI, 4096, .inl (q 2))), (am 6, .inl (cI, 4096, .inl (q 3))), (am 7, .inl (cI, 4096, .inl (q 4))), (am 8, .inl (cI, 4096, .inl (q 5)))] t.heap ∧ va_D A [(am 0, .inr (6, [.int 0, .ref (am 1), .int (nI cn), .ref (am 2), .int (nI tn), .ref (am 3), .ref (am 4), .ref (am 5), .ref (am 6), .ref (am 7), .ref (am 8), .int (nI mc), .int pl, .int tk, .int (nI fr), .int (nI tj), .ref (am 9), .int (nI dn)])), (am 3, .inl (cB, 4096, .inl (q 0))), (am 4, .inl (cI, 4096, .inl (q 1))), (am 5, .inl (cI, 4096, .inl (q 2))), (am 6, .inl (cI, 4096, .inl (q 3))), (am 7, .inl (cI, 4096, .inl (q 4))), (am 8, .inl (cI, 4096, .inl (q 5)))]) A
set_option maxHeartbeats 4000000 in
set_option maxRecDepth 100000 in
theorem c_MO_kind (l : Launch) (D : va_G) (cI cB cL : ClassId) (am : Nat → Nat) (ft : Int32) (cn tn mc : Nat) (pl tk : Int32) (fr tj dn : Nat) (q : Nat → Nat → Int32) (x : Int32) (hm : mc ≤ 4096) (sz : Nat) : Met l y_MO_kind w_MO_kind rm_MO_kind (va_Pc [.ref (am 0), .int x] (fun U => U.heap.size = sz ∧ va_P D vwCl [(am 0, .inr (6, [.int ft, .ref (am 1), .int (nI cn), .ref (am 2), .int (nI tn), .ref (am 3), .ref (am 4), .ref (am 5), .ref (am 6), .ref (am 7), .ref (am 8), .int (nI mc), .int pl, .int tk, .int (nI fr), .int (nI tj), .ref (am 9), .int (nI dn)])), (am 3, .inl (cB, 4096, .inl (q 0))), (am 4, .inl (cI, 4096, .inl (q 1))), (am 5, .inl (cI, 4096, .inl (q 2))), (am 6, .inl (cI, 4096, .inl (q 3))), (am 7, .inl (cI, 4096, .inl (q 4))), (am 8, .inl (cI, 4096, .inl (q 5)))] U.heap ∧ va_K D vwCl (tt_ty cI cB cL) U ∧ va_D (fun _ => True) [(am 0, .inr (6, [.int ft, .ref (am 1), .int (nI cn), .ref (am 2), .int (nI tn), .ref (am 3), .ref (am 4), .ref (am 5), .ref (am 6), .ref (am 7), .ref (am 8), .int (nI mc), .int pl, .int tk, .int (nI fr), .int (nI tj), .ref (am 9), .int (nI dn)])), (am 3, .inl (cB, 4096, .inl (q 0))), (am 4, .inl (cI, 4096, .inl (q 1))), (am 5, .inl (cI, 4096, .inl (q 2))), (am 6, .inl (cI, 4096, .inl (q 3))), (am 7, .inl (cI, 4096, .inl (q 4))), (am 8, .inl (cI, 4096, .inl (q 5)))])) (q_MO_kind D cI cB cL am ft cn tn mc pl tk fr tj dn q x (va_A [(am 0, .inr (6, [.int ft, .ref (am 1), .int (nI cn), .ref (am 2), .int (nI tn), .ref (am 3), .ref (am 4), .ref (am 5), .ref (am 6), .ref (am 7), .ref (am 8), .int (nI mc), .int pl, .int tk, .int (nI fr), .int (nI tj), .ref (am 9), .int (nI dn)])), (am 3, .inl (cB, 4096, .inl (q 0))), (am 4, .inl (cI, 4096, .inl (q 1))), (am 5, .inl (cI, 4096, .inl (q 2))), (am 6, .inl (cI, 4096, .inl (q 3))), (am 7, .inl (cI, 4096, .inl (q 4))), (am 8, .inl (cI, 4096, .inl (q 5)))] sz)) 0 0 (va_A [(am 0, .inr (6, [.int ft, .ref (am 1), .int (nI cn), .ref (am 2), .int (nI tn), .ref (am 3), .ref (am 4), .ref (am 5), .ref (am 6), .ref (am 7), .ref (am 8), .int (nI mc), .int pl, .int tk, .int (nI fr), .int (nI tj), .ref (am 9), .int (nI dn)])), (am 3, .inl (cB, 4096, .inl (q 0))), (am 4, .inl (cI, 4096, .inl (q 1))), (am 5, .inl (cI, 4096, .inl (q 2))), (am 6, .inl (cI, 4096, .inl (q 3))), (am 7, .inl (cI, 4096, .inl (q 4))), (am 8, .inl (cI, 4096, .inl (q 5)))] sz) := by
  refine Met.ofW (cc := b_MO_kind) (maxL := 2) (ret := (some .int)) (by decide) rfl ?_
  intro p e s m args below meth c s₁ B hml hv
  obtain ⟨rfl, hsz, hP, hK, hD0⟩ := hv
  have hx := B.exec
  have hb := B.bytes
  have hr := B.returns
  have hts := atoms_spec (ws := w_MO_kind) B.pre
  have htT : ∀ w ∈ tt_T, w.before _ s = true := fun w h => hts w (List.mem_cons_of_mem _ h)
  have hown : s.vm.findClass R_MO = some m.cls := findClass_of_methodNamed B.named
  have hlocks := B.notSynchronized
  subst hsz
  have hD := hD0.self (sz := s.heap.size)
  generalize hAe : va_A [(am 0, .inr (6, [.int ft, .ref (am 1), .int (nI cn), .ref (am 2), .int (nI tn), .ref (am 3), .ref (am 4), .ref (am 5), .ref (am 6), .ref (am 7), .ref (am 8), .int (nI mc), .int pl, .int tk, .int (nI fr), .int (nI tj), .ref (am 9), .int (nI dn)])), (am 3, .inl (cB, 4096, .inl (q 0))), (am 4, .inl (cI, 4096, .inl (q 1))), (am 5, .inl (cI, 4096, .inl (q 2))), (am 6, .inl (cI, 4096, .inl (q 3))), (am 7, .inl (cI, 4096, .inl (q 4))), (am 8, .inl (cI, 4096, .inl (q 5)))] s.heap.size = A at hD ⊢
  have hA : ∀ q : Nat, s.heap.size ≤ q → A q := fun q h => by rw [← hAe]; exact Or.inr h
  have hS : va_S A s.heap s.heap [] := va_S.rf
  have hl := lv_entry ([.ref (am 0), .int x]) (n := 2) (Nat.le_of_ble_eq_true rfl)
  rw [lg_entry_eq]
  generalize (lg_sl ([.ref (am 0), .int x]) ++ List.replicate (2 - (lg_sl ([.ref (am 0), .int x])).length) Slot.unset).toArray = ls at hl ⊢
  have hl : lv_has ls 2 [(0, .ref (am 0)), (1, .int x)] := hl
  have hP : va_P D vwCl [(am 0, .inr (6, [.int ft, .ref (am 1), .int (nI cn), .ref (am 2), .int (nI tn), .ref (am 3), .ref (am 4), .ref (am 5), .ref (am 6), .ref (am 7), .ref (am 8), .int (nI mc), .int pl, .int tk, .int (nI fr), .int (nI tj), .ref (am 9), .int (nI dn)])), (am 3, .inl (cB, 4096, .inl (q 0))), (am 4, .inl (cI, 4096, .inl (q 1))), (am 5, .inl (cI, 4096, .inl (q 2))), (am 6, .inl (cI, 4096, .inl (q 3))), (am 7, .inl (cI, 4096, .inl (q 4))), (am 8, .inl (cI, 4096, .inl (q 5)))] s.heap := hP
  refine lv_aload_n hx hb d_MO_kind_0 rfl (lv_at hl 0 rfl) ?_
  refine lv_iload_n hx hb d_MO_kind_1 rfl (lv_at hl 1 rfl) ?_
  refine tt_muI (wr := [(am 3, .inl (cB, 4096, .inl (q 0))), (am 4, .inl (cI, 4096, .inl (q 1))), (am 5, .inl (cI, 4096, .inl (q 2))), (am 6, .inl (cI, 4096, .inl (q 3))), (am 7, .inl (cI, 4096, .inl (q 4))), (am 8, .inl (cI, 4096, .inl (q 5)))]) (va_runV (As := [.int x]) (rest := []) ⟨hx, hb, hml, hown, hts⟩ (c_MO_isTerm l D cI cB cL am ft cn tn mc pl tk fr tj dn x _) (cwV 1 hts (tt_gV k_792 k_794 ks_36 k_7 k_795) rfl rfl rfl hv_MO_isTerm ⟨Nat.le_of_ble_eq_true rfl, Nat.le_of_ble_eq_true rfl⟩) (tt_mupreV (w := [(am 0, .inr (6, [.int ft, .ref (am 1), .int (nI cn), .ref (am 2), .int (nI tn), .ref (am 3), .ref (am 4), .ref (am 5), .ref (am 6), .ref (am 7), .ref (am 8), .int (nI mc), .int pl, .int tk, .int (nI fr), .int (nI tj), .ref (am 9), .int (nI dn)]))]) hK hP hD [0] rfl (by decide) rfl (va_recv hK hP (ci := 6) (q0 := 0) rfl rfl)) rfl rfl hl.1 rfl (lv_room (Nat.le_of_ble_eq_true rfl)) d_MO_kind_2 ⟨Nat.zero_le _, Nat.zero_le _⟩) hS hP hD hA [0] [1, 2, 3, 4, 5, 6] rfl rfl (by decide) (by decide) (fun H locs hP hD hS => ?_)
  have hP : va_P D vwCl [(am 3, .inl (cB, 4096, .inl (q 0))), (am 4, .inl (cI, 4096, .inl (q 1))), (am 5, .inl (cI, 4096, .inl (q 2))), (am 6, .inl (cI, 4096, .inl (q 3))), (am 7, .inl (cI, 4096, .inl (q 4))), (am 8, .inl (cI, 4096, .inl (q 5))), (am 0, .inr (6, [.int 0, .ref (am 1), .int (nI cn), .ref (am 2), .int (nI tn), .ref (am 3), .ref (am 4), .ref (am 5), .ref (am 6), .ref (am 7), .ref (am 8), .int (nI mc), .int pl, .int tk, .int (nI fr), .int (nI tj), .ref (am 9), .int (nI dn)]))] H := hP
  have hD : va_D A [(am 3, .inl (cB, 4096, .inl (q 0))), (am 4, .inl (cI, 4096, .inl (q 1))), (am 5, .inl (cI, 4096, .inl (q 2))), (am 6, .inl (cI, 4096, .inl (q 3))), (am 7, .inl (cI, 4096, .inl (q 4))), (am 8, .inl (cI, 4096, .inl (q 5))), (am 0, .inr (6, [.int 0, .ref (am 1), .int (nI cn), .ref (am 2), .int (nI tn), .ref (am 3), .ref (am 4), .ref (am 5), .ref (am 6), .ref (am 7), .ref (am 8), .int (nI mc), .int pl, .int tk, .int (nI fr), .int (nI tj), .ref (am 9), .int (nI dn)]))] := hD
  refine lv_if_eq (tgt := 17) hx hb d_MO_kind_5 (by decide) (fun c_5 => ?_) (fun c_5 => ?_)
  · have c_5 := tt_b0.mp c_5
    refine lv_iconst (v := (-1)) hx hb d_MO_kind_17 (by decide) ?_
    have o_r : ((-1) : Int32) = (if tm_isT mc x = true then q 0 x.toNatClampNeg else -1) := by simp [c_5]
    have hP9 : va_P D vwCl [(am 0, .inr (6, [.int 0, .ref (am 1), .int (nI cn), .ref (am 2), .int (nI tn), .ref (am 3), .ref (am 4), .ref (am 5), .ref (am 6), .ref (am 7), .ref (am 8), .int (nI mc), .int pl, .int tk, .int (nI fr), .int (nI tj), .ref (am 9), .int (nI dn)])), (am 3, .inl (cB, 4096, .inl (q 0))), (am 4, .inl (cI, 4096, .inl (q 1))), (am 5, .inl (cI, 4096, .inl (q 2))), (am 6, .inl (cI, 4096, .inl (q 3))), (am 7, .inl (cI, 4096, .inl (q 4))), (am 8, .inl (cI, 4096, .inl (q 5)))] H := hP.sub [6, 0, 1, 2, 3, 4, 5] rfl
    have hD9 : va_D A [(am 0, .inr (6, [.int 0, .ref (am 1), .int (nI cn), .ref (am 2), .int (nI tn), .ref (am 3), .ref (am 4), .ref (am 5), .ref (am 6), .ref (am 7), .ref (am 8), .int (nI mc), .int pl, .int tk, .int (nI fr), .int (nI tj), .ref (am 9), .int (nI dn)])), (am 3, .inl (cB, 4096, .inl (q 0))), (am 4, .inl (cI, 4096, .inl (q 1))), (am 5, .inl (cI, 4096, .inl (q 2))), (am 6, .inl (cI, 4096, .inl (q 3))), (am 7, .inl (cI, 4096, .inl (q 4))), (am 8, .inl (cI, 4096, .inl (q 5)))] := hD.sub [6, 0, 1, 2, 3, 4, 5] (by decide) rfl
    exact W.iret (v := (-1)) hx hb hr (fun t ht hW => ⟨⟨_, (), rfl, o_r, by rw [ht]; exact hP9, hD9⟩, hS.F ht⟩) hS.2.2 d_MO_kind_18
  · have c_5 := tt_bn0.mp c_5
    have hv9 := tm_isT_t c_5
    refine lv_aload_n hx hb d_MO_kind_8 rfl (lv_at hl 0 rfl) ?_
    refine va_get (D := D) (ci := 6) (v := .ref (am 3)) (C := R_MO) (T := F_MO) (N := 18) hx hb htT i_MO hown hK hP 6 rfl rfl 5 (by decide) (htT _ k_640) (fun _ h9 => h9) rfl d_MO_kind_9 ?_
    refine lv_iload_n hx hb d_MO_kind_12 rfl (lv_at hl 1 rfl) ?_
    refine va_bald (D := D) hx hb hK hP 0 1 rfl rfl (tm_isv hv9.1 hv9.2 hm) d_MO_kind_13 ?_
    refine lv_goto (tgt := 18) hx hb d_MO_kind_14 (by decide) ?_
    have o_r : ((q 0) x.toNatClampNeg) = (if tm_isT mc x = true then q 0 x.toNatClampNeg else -1) := by simp [c_5]
    have hP9 : va_P D vwCl [(am 0, .inr (6, [.int 0, .ref (am 1), .int (nI cn), .ref (am 2), .int (nI tn), .ref (am 3), .ref (am 4), .ref (am 5), .ref (am 6), .ref (am 7), .ref (am 8), .int (nI mc), .int pl, .int tk, .int (nI fr), .int (nI tj), .ref (am 9), .int (nI dn)])), (am 3, .inl (cB, 4096, .inl (q 0))), (am 4, .inl (cI, 4096, .inl (q 1))), (am 5, .inl (cI, 4096, .inl (q 2))), (am 6, .inl (cI, 4096, .inl (q 3))), (am 7, .inl (cI, 4096, .inl (q 4))), (am 8, .inl (cI, 4096, .inl (q 5)))] H := hP.sub [6, 0, 1, 2, 3, 4, 5] rfl
    have hD9 : va_D A [(am 0, .inr (6, [.int 0, .ref (am 1), .int (nI cn), .ref (am 2), .int (nI tn), .ref (am 3), .ref (am 4), .ref (am 5), .ref (am 6), .ref (am 7), .ref (am 8), .int (nI mc), .int pl, .int tk, .int (nI fr), .int (nI tj), .ref (am 9), .int (nI dn)])), (am 3, .inl (cB, 4096, .inl (q 0))), (am 4, .inl (cI, 4096, .inl (q 1))), (am 5, .inl (cI, 4096, .inl (q 2))), (am 6, .inl (cI, 4096, .inl (q 3))), (am 7, .inl (cI, 4096, .inl (q 4))), (am 8, .inl (cI, 4096, .inl (q 5)))] := hD.sub [6, 0, 1, 2, 3, 4, 5] (by decide) rfl
    exact W.iret (v := (q 0) x.toNatClampNeg) hx hb hr (fun t ht hW => ⟨⟨_, (), rfl, o_r, by rw [ht]; exact hP9, hD9⟩, hS.F ht⟩) hS.2.2 d_MO_kind_18
abbrev rm_MO_parent : Room := { frames := 1, cells := 0, slots := 0, locals := 21 }
abbrev q_MO_parent (D : va_G) (cI cB cL : ClassId) (am : Nat → Nat) (ft : Int32) (cn tn mc : Nat) (pl tk : Int32) (fr tj dn : Nat) (q : Nat → Nat → Int32) (x : Int32) (A : Nat → Prop) : Array Value → State → Outcome → State → Prop := va_Qi (fun r9 _ => r9 = (if tm_isT mc x = true then q 1 x.toNatClampNeg else -1)) (fun (_ : Unit) t => va_P D vwCl [(am 0, .inr (6, [.int 0, .ref (am 1), .int (nI cn), .ref (am 2), .int (nI tn), .ref (am 3), .ref (am 4), .ref (am 5), .ref (am 6), .ref (am 7), .ref (am 8), .int (nI mc), .int pl, .int tk, .int (nI fr), .int (nI tj), .ref (am 9), .int (nI dn)])), (am 3, .inl (cB, 4096, .inl (q 0))), (am 4, .inl (cI, 4096, .inl (q 1))), (am 5, .inl (cI, 4096, .inl (q 2))), (am 6, .inl (cI, 4096, .inl (q 3))), (am 7, .inl (cI, 4096, .inl (q 4))), (am 8, .inl (cI, 4096, .inl (q 5)))] t.heap ∧ va_D A [(am 0, .inr (6, [.int 0, .ref (am 1), .int (nI cn), .ref (am 2), .int (nI tn), .ref (am 3), .ref (am 4), .ref (am 5), .ref (am 6), .ref (am 7), .ref (am 8), .int (nI mc), .int pl, .int tk, .int (nI fr), .int (nI tj), .ref (am 9), .int (nI dn)])), (am 3, .inl (cB, 4096, .inl (q 0))), (am 4, .inl (cI, 4096, .inl (q 1))), (am 5, .inl (cI, 4096, .inl (q 2))), (am 6, .inl (cI, 4096, .inl (q 3))), (am 7, .inl (cI, 4096, .inl (q 4))), (am 8, .inl (cI, 4096, .inl (q 5)))]) A
set_option maxHeartbeats 4000000 in
set_option maxRecDepth 100000 in
theorem c_MO_parent (l : Launch) (D : va_G) (cI cB cL : ClassId) (am : Nat → Nat) (ft : Int32) (cn tn mc : Nat) (pl tk : Int32) (fr tj dn : Nat) (q : Nat → Nat → Int32) (x : Int32) (hm : mc ≤ 4096) (sz : Nat) : Met l y_MO_parent w_MO_parent rm_MO_parent (va_Pc [.ref (am 0), .int x] (fun U => U.heap.size = sz ∧ va_P D vwCl [(am 0, .inr (6, [.int ft, .ref (am 1), .int (nI cn), .ref (am 2), .int (nI tn), .ref (am 3), .ref (am 4), .ref (am 5), .ref (am 6), .ref (am 7), .ref (am 8), .int (nI mc), .int pl, .int tk, .int (nI fr), .int (nI tj), .ref (am 9), .int (nI dn)])), (am 3, .inl (cB, 4096, .inl (q 0))), (am 4, .inl (cI, 4096, .inl (q 1))), (am 5, .inl (cI, 4096, .inl (q 2))), (am 6, .inl (cI, 4096, .inl (q 3))), (am 7, .inl (cI, 4096, .inl (q 4))), (am 8, .inl (cI, 4096, .inl (q 5)))] U.heap ∧ va_K D vwCl (tt_ty cI cB cL) U ∧ va_D (fun _ => True) [(am 0, .inr (6, [.int ft, .ref (am 1), .int (nI cn), .ref (am 2), .int (nI tn), .ref (am 3), .ref (am 4), .ref (am 5), .ref (am 6), .ref (am 7), .ref (am 8), .int (nI mc), .int pl, .int tk, .int (nI fr), .int (nI tj), .ref (am 9), .int (nI dn)])), (am 3, .inl (cB, 4096, .inl (q 0))), (am 4, .inl (cI, 4096, .inl (q 1))), (am 5, .inl (cI, 4096, .inl (q 2))), (am 6, .inl (cI, 4096, .inl (q 3))), (am 7, .inl (cI, 4096, .inl (q 4))), (am 8, .inl (cI, 4096, .inl (q 5)))])) (q_MO_parent D cI cB cL am ft cn tn mc pl tk fr tj dn q x (va_A [(am 0, .inr (6, [.int ft, .ref (am 1), .int (nI cn), .ref (am 2), .int (nI tn), .ref (am 3), .ref (am 4), .ref (am 5), .ref (am 6), .ref (am 7), .ref (am 8), .int (nI mc), .int pl, .int tk, .int (nI fr), .int (nI tj), .ref (am 9), .int (nI dn)])), (am 3, .inl (cB, 4096, .inl (q 0))), (am 4, .inl (cI, 4096, .inl (q 1))), (am 5, .inl (cI, 4096, .inl (q 2))), (am 6, .inl (cI, 4096, .inl (q 3))), (am 7, .inl (cI, 4096, .inl (q 4))), (am 8, .inl (cI, 4096, .inl (q 5)))] sz)) 0 0 (va_A [(am 0, .inr (6, [.int ft, .ref (am 1), .int (nI cn), .ref (am 2), .int (nI tn), .ref (am 3), .ref (am 4), .ref (am 5), .ref (am 6), .ref (am 7), .ref (am 8), .int (nI mc), .int pl, .int tk, .int (nI fr), .int (nI tj), .ref (am 9), .int (nI dn)])), (am 3, .inl (cB, 4096, .inl (q 0))), (am 4, .inl (cI, 4096, .inl (q 1))), (am 5, .inl (cI, 4096, .inl (q 2))), (am 6, .inl (cI, 4096, .inl (q 3))), (am 7, .inl (cI, 4096, .inl (q 4))), (am 8, .inl (cI, 4096, .inl (q 5)))] sz) := by
  refine Met.ofW (cc := b_MO_parent) (maxL := 2) (ret := (some .int)) (by decide) rfl ?_
  intro p e s m args below meth c s₁ B hml hv
  obtain ⟨rfl, hsz, hP, hK, hD0⟩ := hv
  have hx := B.exec
  have hb := B.bytes
  have hr := B.returns
  have hts := atoms_spec (ws := w_MO_parent) B.pre
  have htT : ∀ w ∈ tt_T, w.before _ s = true := fun w h => hts w (List.mem_cons_of_mem _ h)
  have hown : s.vm.findClass R_MO = some m.cls := findClass_of_methodNamed B.named
  have hlocks := B.notSynchronized
  subst hsz
  have hD := hD0.self (sz := s.heap.size)
  generalize hAe : va_A [(am 0, .inr (6, [.int ft, .ref (am 1), .int (nI cn), .ref (am 2), .int (nI tn), .ref (am 3), .ref (am 4), .ref (am 5), .ref (am 6), .ref (am 7), .ref (am 8), .int (nI mc), .int pl, .int tk, .int (nI fr), .int (nI tj), .ref (am 9), .int (nI dn)])), (am 3, .inl (cB, 4096, .inl (q 0))), (am 4, .inl (cI, 4096, .inl (q 1))), (am 5, .inl (cI, 4096, .inl (q 2))), (am 6, .inl (cI, 4096, .inl (q 3))), (am 7, .inl (cI, 4096, .inl (q 4))), (am 8, .inl (cI, 4096, .inl (q 5)))] s.heap.size = A at hD ⊢
  have hA : ∀ q : Nat, s.heap.size ≤ q → A q := fun q h => by rw [← hAe]; exact Or.inr h
  have hS : va_S A s.heap s.heap [] := va_S.rf
  have hl := lv_entry ([.ref (am 0), .int x]) (n := 2) (Nat.le_of_ble_eq_true rfl)
  rw [lg_entry_eq]
  generalize (lg_sl ([.ref (am 0), .int x]) ++ List.replicate (2 - (lg_sl ([.ref (am 0), .int x])).length) Slot.unset).toArray = ls at hl ⊢
  have hl : lv_has ls 2 [(0, .ref (am 0)), (1, .int x)] := hl
  have hP : va_P D vwCl [(am 0, .inr (6, [.int ft, .ref (am 1), .int (nI cn), .ref (am 2), .int (nI tn), .ref (am 3), .ref (am 4), .ref (am 5), .ref (am 6), .ref (am 7), .ref (am 8), .int (nI mc), .int pl, .int tk, .int (nI fr), .int (nI tj), .ref (am 9), .int (nI dn)])), (am 3, .inl (cB, 4096, .inl (q 0))), (am 4, .inl (cI, 4096, .inl (q 1))), (am 5, .inl (cI, 4096, .inl (q 2))), (am 6, .inl (cI, 4096, .inl (q 3))), (am 7, .inl (cI, 4096, .inl (q 4))), (am 8, .inl (cI, 4096, .inl (q 5)))] s.heap := hP
  refine lv_aload_n hx hb d_MO_parent_0 rfl (lv_at hl 0 rfl) ?_
  refine lv_iload_n hx hb d_MO_parent_1 rfl (lv_at hl 1 rfl) ?_
  refine tt_muI (wr := [(am 3, .inl (cB, 4096, .inl (q 0))), (am 4, .inl (cI, 4096, .inl (q 1))), (am 5, .inl (cI, 4096, .inl (q 2))), (am 6, .inl (cI, 4096, .inl (q 3))), (am 7, .inl (cI, 4096, .inl (q 4))), (am 8, .inl (cI, 4096, .inl (q 5)))]) (va_runV (As := [.int x]) (rest := []) ⟨hx, hb, hml, hown, hts⟩ (c_MO_isTerm l D cI cB cL am ft cn tn mc pl tk fr tj dn x _) (cwV 1 hts (tt_gV k_792 k_794 ks_36 k_7 k_795) rfl rfl rfl hv_MO_isTerm ⟨Nat.le_of_ble_eq_true rfl, Nat.le_of_ble_eq_true rfl⟩) (tt_mupreV (w := [(am 0, .inr (6, [.int ft, .ref (am 1), .int (nI cn), .ref (am 2), .int (nI tn), .ref (am 3), .ref (am 4), .ref (am 5), .ref (am 6), .ref (am 7), .ref (am 8), .int (nI mc), .int pl, .int tk, .int (nI fr), .int (nI tj), .ref (am 9), .int (nI dn)]))]) hK hP hD [0] rfl (by decide) rfl (va_recv hK hP (ci := 6) (q0 := 0) rfl rfl)) rfl rfl hl.1 rfl (lv_room (Nat.le_of_ble_eq_true rfl)) d_MO_parent_2 ⟨Nat.zero_le _, Nat.zero_le _⟩) hS hP hD hA [0] [1, 2, 3, 4, 5, 6] rfl rfl (by decide) (by decide) (fun H locs hP hD hS => ?_)
  have hP : va_P D vwCl [(am 3, .inl (cB, 4096, .inl (q 0))), (am 4, .inl (cI, 4096, .inl (q 1))), (am 5, .inl (cI, 4096, .inl (q 2))), (am 6, .inl (cI, 4096, .inl (q 3))), (am 7, .inl (cI, 4096, .inl (q 4))), (am 8, .inl (cI, 4096, .inl (q 5))), (am 0, .inr (6, [.int 0, .ref (am 1), .int (nI cn), .ref (am 2), .int (nI tn), .ref (am 3), .ref (am 4), .ref (am 5), .ref (am 6), .ref (am 7), .ref (am 8), .int (nI mc), .int pl, .int tk, .int (nI fr), .int (nI tj), .ref (am 9), .int (nI dn)]))] H := hP
  have hD : va_D A [(am 3, .inl (cB, 4096, .inl (q 0))), (am 4, .inl (cI, 4096, .inl (q 1))), (am 5, .inl (cI, 4096, .inl (q 2))), (am 6, .inl (cI, 4096, .inl (q 3))), (am 7, .inl (cI, 4096, .inl (q 4))), (am 8, .inl (cI, 4096, .inl (q 5))), (am 0, .inr (6, [.int 0, .ref (am 1), .int (nI cn), .ref (am 2), .int (nI tn), .ref (am 3), .ref (am 4), .ref (am 5), .ref (am 6), .ref (am 7), .ref (am 8), .int (nI mc), .int pl, .int tk, .int (nI fr), .int (nI tj), .ref (am 9), .int (nI dn)]))] := hD
  refine lv_if_eq (tgt := 17) hx hb d_MO_parent_5 (by decide) (fun c_5 => ?_) (fun c_5 => ?_)
  · have c_5 := tt_b0.mp c_5
    refine lv_iconst (v := (-1)) hx hb d_MO_parent_17 (by decide) ?_
    have o_r : ((-1) : Int32) = (if tm_isT mc x = true then q 1 x.toNatClampNeg else -1) := by simp [c_5]
    have hP9 : va_P D vwCl [(am 0, .inr (6, [.int 0, .ref (am 1), .int (nI cn), .ref (am 2), .int (nI tn), .ref (am 3), .ref (am 4), .ref (am 5), .ref (am 6), .ref (am 7), .ref (am 8), .int (nI mc), .int pl, .int tk, .int (nI fr), .int (nI tj), .ref (am 9), .int (nI dn)])), (am 3, .inl (cB, 4096, .inl (q 0))), (am 4, .inl (cI, 4096, .inl (q 1))), (am 5, .inl (cI, 4096, .inl (q 2))), (am 6, .inl (cI, 4096, .inl (q 3))), (am 7, .inl (cI, 4096, .inl (q 4))), (am 8, .inl (cI, 4096, .inl (q 5)))] H := hP.sub [6, 0, 1, 2, 3, 4, 5] rfl
    have hD9 : va_D A [(am 0, .inr (6, [.int 0, .ref (am 1), .int (nI cn), .ref (am 2), .int (nI tn), .ref (am 3), .ref (am 4), .ref (am 5), .ref (am 6), .ref (am 7), .ref (am 8), .int (nI mc), .int pl, .int tk, .int (nI fr), .int (nI tj), .ref (am 9), .int (nI dn)])), (am 3, .inl (cB, 4096, .inl (q 0))), (am 4, .inl (cI, 4096, .inl (q 1))), (am 5, .inl (cI, 4096, .inl (q 2))), (am 6, .inl (cI, 4096, .inl (q 3))), (am 7, .inl (cI, 4096, .inl (q 4))), (am 8, .inl (cI, 4096, .inl (q 5)))] := hD.sub [6, 0, 1, 2, 3, 4, 5] (by decide) rfl
    exact W.iret (v := (-1)) hx hb hr (fun t ht hW => ⟨⟨_, (), rfl, o_r, by rw [ht]; exact hP9, hD9⟩, hS.F ht⟩) hS.2.2 d_MO_parent_18
  · have c_5 := tt_bn0.mp c_5
    have hv9 := tm_isT_t c_5
    refine lv_aload_n hx hb d_MO_parent_8 rfl (lv_at hl 0 rfl) ?_
    refine va_get (D := D) (ci := 6) (v := .ref (am 4)) (C := R_MO) (T := F_MO) (N := 18) hx hb htT i_MO hown hK hP 6 rfl rfl 6 (by decide) (htT _ k_641) (fun _ h9 => h9) rfl d_MO_parent_9 ?_
    refine lv_iload_n hx hb d_MO_parent_12 rfl (lv_at hl 1 rfl) ?_
    refine va_iald (D := D) hx hb hK hP 1 0 rfl rfl (tm_isv hv9.1 hv9.2 hm) d_MO_parent_13 ?_
    refine lv_goto (tgt := 18) hx hb d_MO_parent_14 (by decide) ?_
    have o_r : ((q 1) x.toNatClampNeg) = (if tm_isT mc x = true then q 1 x.toNatClampNeg else -1) := by simp [c_5]
    have hP9 : va_P D vwCl [(am 0, .inr (6, [.int 0, .ref (am 1), .int (nI cn), .ref (am 2), .int (nI tn), .ref (am 3), .ref (am 4), .ref (am 5), .ref (am 6), .ref (am 7), .ref (am 8), .int (nI mc), .int pl, .int tk, .int (nI fr), .int (nI tj), .ref (am 9), .int (nI dn)])), (am 3, .inl (cB, 4096, .inl (q 0))), (am 4, .inl (cI, 4096, .inl (q 1))), (am 5, .inl (cI, 4096, .inl (q 2))), (am 6, .inl (cI, 4096, .inl (q 3))), (am 7, .inl (cI, 4096, .inl (q 4))), (am 8, .inl (cI, 4096, .inl (q 5)))] H := hP.sub [6, 0, 1, 2, 3, 4, 5] rfl
    have hD9 : va_D A [(am 0, .inr (6, [.int 0, .ref (am 1), .int (nI cn), .ref (am 2), .int (nI tn), .ref (am 3), .ref (am 4), .ref (am 5), .ref (am 6), .ref (am 7), .ref (am 8), .int (nI mc), .int pl, .int tk, .int (nI fr), .int (nI tj), .ref (am 9), .int (nI dn)])), (am 3, .inl (cB, 4096, .inl (q 0))), (am 4, .inl (cI, 4096, .inl (q 1))), (am 5, .inl (cI, 4096, .inl (q 2))), (am 6, .inl (cI, 4096, .inl (q 3))), (am 7, .inl (cI, 4096, .inl (q 4))), (am 8, .inl (cI, 4096, .inl (q 5)))] := hD.sub [6, 0, 1, 2, 3, 4, 5] (by decide) rfl
    exact W.iret (v := (q 1) x.toNatClampNeg) hx hb hr (fun t ht hW => ⟨⟨_, (), rfl, o_r, by rw [ht]; exact hP9, hD9⟩, hS.F ht⟩) hS.2.2 d_MO_parent_18
abbrev rm_MO_begins : Room := { frames := 1, cells := 0, slots := 0, locals := 21 }
abbrev q_MO_begins (D : va_G) (cI cB cL : ClassId) (am : Nat → Nat) (ft : Int32) (cn tn mc : Nat) (pl tk : Int32) (fr tj dn : Nat) (q : Nat → Nat → Int32) (x : Int32) (A : Nat → Prop) : Array Value → State → Outcome → State → Prop := va_Qi (fun r9 _ => r9 = (if tm_isT mc x = true then q 2 x.toNatClampNeg else -1)) (fun (_ : Unit) t => va_P D vwCl [(am 0, .inr (6, [.int 0, .ref (am 1), .int (nI cn), .ref (am 2), .int (nI tn), .ref (am 3), .ref (am 4), .ref (am 5), .ref (am 6), .ref (am 7), .ref (am 8), .int (nI mc), .int pl, .int tk, .int (nI fr), .int (nI tj), .ref (am 9), .int (nI dn)])), (am 3, .inl (cB, 4096, .inl (q 0))), (am 4, .inl (cI, 4096, .inl (q 1))), (am 5, .inl (cI, 4096, .inl (q 2))), (am 6, .inl (cI, 4096, .inl (q 3))), (am 7, .inl (cI, 4096, .inl (q 4))), (am 8, .inl (cI, 4096, .inl (q 5)))] t.heap ∧ va_D A [(am 0, .inr (6, [.int 0, .ref (am 1), .int (nI cn), .ref (am 2), .int (nI tn), .ref (am 3), .ref (am 4), .ref (am 5), .ref (am 6), .ref (am 7), .ref (am 8), .int (nI mc), .int pl, .int tk, .int (nI fr), .int (nI tj), .ref (am 9), .int (nI dn)])), (am 3, .inl (cB, 4096, .inl (q 0))), (am 4, .inl (cI, 4096, .inl (q 1))), (am 5, .inl (cI, 4096, .inl (q 2))), (am 6, .inl (cI, 4096, .inl (q 3))), (am 7, .inl (cI, 4096, .inl (q 4))), (am 8, .inl (cI, 4096, .inl (q 5)))]) A
set_option maxHeartbeats 4000000 in
set_option maxRecDepth 100000 in
theorem c_MO_begins (l : Launch) (D : va_G) (cI cB cL : ClassId) (am : Nat → Nat) (ft : Int32) (cn tn mc : Nat) (pl tk : Int32) (fr tj dn : Nat) (q : Nat → Nat → Int32) (x : Int32) (hm : mc ≤ 4096) (sz : Nat) : Met l y_MO_begins w_MO_begins rm_MO_begins (va_Pc [.ref (am 0), .int x] (fun U => U.heap.size = sz ∧ va_P D vwCl [(am 0, .inr (6, [.int ft, .ref (am 1), .int (nI cn), .ref (am 2), .int (nI tn), .ref (am 3), .ref (am 4), .ref (am 5), .ref (am 6), .ref (am 7), .ref (am 8), .int (nI mc), .int pl, .int tk, .int (nI fr), .int (nI tj), .ref (am 9), .int (nI dn)])), (am 3, .inl (cB, 4096, .inl (q 0))), (am 4, .inl (cI, 4096, .inl (q 1))), (am 5, .inl (cI, 4096, .inl (q 2))), (am 6, .inl (cI, 4096, .inl (q 3))), (am 7, .inl (cI, 4096, .inl (q 4))), (am 8, .inl (cI, 4096, .inl (q 5)))] U.heap ∧ va_K D vwCl (tt_ty cI cB cL) U ∧ va_D (fun _ => True) [(am 0, .inr (6, [.int ft, .ref (am 1), .int (nI cn), .ref (am 2), .int (nI tn), .ref (am 3), .ref (am 4), .ref (am 5), .ref (am 6), .ref (am 7), .ref (am 8), .int (nI mc), .int pl, .int tk, .int (nI fr), .int (nI tj), .ref (am 9), .int (nI dn)])), (am 3, .inl (cB, 4096, .inl (q 0))), (am 4, .inl (cI, 4096, .inl (q 1))), (am 5, .inl (cI, 4096, .inl (q 2))), (am 6, .inl (cI, 4096, .inl (q 3))), (am 7, .inl (cI, 4096, .inl (q 4))), (am 8, .inl (cI, 4096, .inl (q 5)))])) (q_MO_begins D cI cB cL am ft cn tn mc pl tk fr tj dn q x (va_A [(am 0, .inr (6, [.int ft, .ref (am 1), .int (nI cn), .ref (am 2), .int (nI tn), .ref (am 3), .ref (am 4), .ref (am 5), .ref (am 6), .ref (am 7), .ref (am 8), .int (nI mc), .int pl, .int tk, .int (nI fr), .int (nI tj), .ref (am 9), .int (nI dn)])), (am 3, .inl (cB, 4096, .inl (q 0))), (am 4, .inl (cI, 4096, .inl (q 1))), (am 5, .inl (cI, 4096, .inl (q 2))), (am 6, .inl (cI, 4096, .inl (q 3))), (am 7, .inl (cI, 4096, .inl (q 4))), (am 8, .inl (cI, 4096, .inl (q 5)))] sz)) 0 0 (va_A [(am 0, .inr (6, [.int ft, .ref (am 1), .int (nI cn), .ref (am 2), .int (nI tn), .ref (am 3), .ref (am 4), .ref (am 5), .ref (am 6), .ref (am 7), .ref (am 8), .int (nI mc), .int pl, .int tk, .int (nI fr), .int (nI tj), .ref (am 9), .int (nI dn)])), (am 3, .inl (cB, 4096, .inl (q 0))), (am 4, .inl (cI, 4096, .inl (q 1))), (am 5, .inl (cI, 4096, .inl (q 2))), (am 6, .inl (cI, 4096, .inl (q 3))), (am 7, .inl (cI, 4096, .inl (q 4))), (am 8, .inl (cI, 4096, .inl (q 5)))] sz) := by
  refine Met.ofW (cc := b_MO_begins) (maxL := 2) (ret := (some .int)) (by decide) rfl ?_
  intro p e s m args below meth c s₁ B hml hv
  obtain ⟨rfl, hsz, hP, hK, hD0⟩ := hv
  have hx := B.exec
  have hb := B.bytes
  have hr := B.returns
  have hts := atoms_spec (ws := w_MO_begins) B.pre
  have htT : ∀ w ∈ tt_T, w.before _ s = true := fun w h => hts w (List.mem_cons_of_mem _ h)
  have hown : s.vm.findClass R_MO = some m.cls := findClass_of_methodNamed B.named
  have hlocks := B.notSynchronized
  subst hsz
  have hD := hD0.self (sz := s.heap.size)
  generalize hAe : va_A [(am 0, .inr (6, [.int ft, .ref (am 1), .int (nI cn), .ref (am 2), .int (nI tn), .ref (am 3), .ref (am 4), .ref (am 5), .ref (am 6), .ref (am 7), .ref (am 8), .int (nI mc), .int pl, .int tk, .int (nI fr), .int (nI tj), .ref (am 9), .int (nI dn)])), (am 3, .inl (cB, 4096, .inl (q 0))), (am 4, .inl (cI, 4096, .inl (q 1))), (am 5, .inl (cI, 4096, .inl (q 2))), (am 6, .inl (cI, 4096, .inl (q 3))), (am 7, .inl (cI, 4096, .inl (q 4))), (am 8, .inl (cI, 4096, .inl (q 5)))] s.heap.size = A at hD ⊢
  have hA : ∀ q : Nat, s.heap.size ≤ q → A q := fun q h => by rw [← hAe]; exact Or.inr h
  have hS : va_S A s.heap s.heap [] := va_S.rf
  have hl := lv_entry ([.ref (am 0), .int x]) (n := 2) (Nat.le_of_ble_eq_true rfl)
  rw [lg_entry_eq]
  generalize (lg_sl ([.ref (am 0), .int x]) ++ List.replicate (2 - (lg_sl ([.ref (am 0), .int x])).length) Slot.unset).toArray = ls at hl ⊢
  have hl : lv_has ls 2 [(0, .ref (am 0)), (1, .int x)] := hl
  have hP : va_P D vwCl [(am 0, .inr (6, [.int ft, .ref (am 1), .int (nI cn), .ref (am 2), .int (nI tn), .ref (am 3), .ref (am 4), .ref (am 5), .ref (am 6), .ref (am 7), .ref (am 8), .int (nI mc), .int pl, .int tk, .int (nI fr), .int (nI tj), .ref (am 9), .int (nI dn)])), (am 3, .inl (cB, 4096, .inl (q 0))), (am 4, .inl (cI, 4096, .inl (q 1))), (am 5, .inl (cI, 4096, .inl (q 2))), (am 6, .inl (cI, 4096, .inl (q 3))), (am 7, .inl (cI, 4096, .inl (q 4))), (am 8, .inl (cI, 4096, .inl (q 5)))] s.heap := hP
  refine lv_aload_n hx hb d_MO_begins_0 rfl (lv_at hl 0 rfl) ?_
  refine lv_iload_n hx hb d_MO_begins_1 rfl (lv_at hl 1 rfl) ?_
  refine tt_muI (wr := [(am 3, .inl (cB, 4096, .inl (q 0))), (am 4, .inl (cI, 4096, .inl (q 1))), (am 5, .inl (cI, 4096, .inl (q 2))), (am 6, .inl (cI, 4096, .inl (q 3))), (am 7, .inl (cI, 4096, .inl (q 4))), (am 8, .inl (cI, 4096, .inl (q 5)))]) (va_runV (As := [.int x]) (rest := []) ⟨hx, hb, hml, hown, hts⟩ (c_MO_isTerm l D cI cB cL am ft cn tn mc pl tk fr tj dn x _) (cwV 1 hts (tt_gV k_792 k_794 ks_36 k_7 k_795) rfl rfl rfl hv_MO_isTerm ⟨Nat.le_of_ble_eq_true rfl, Nat.le_of_ble_eq_true rfl⟩) (tt_mupreV (w := [(am 0, .inr (6, [.int ft, .ref (am 1), .int (nI cn), .ref (am 2), .int (nI tn), .ref (am 3), .ref (am 4), .ref (am 5), .ref (am 6), .ref (am 7), .ref (am 8), .int (nI mc), .int pl, .int tk, .int (nI fr), .int (nI tj), .ref (am 9), .int (nI dn)]))]) hK hP hD [0] rfl (by decide) rfl (va_recv hK hP (ci := 6) (q0 := 0) rfl rfl)) rfl rfl hl.1 rfl (lv_room (Nat.le_of_ble_eq_true rfl)) d_MO_begins_2 ⟨Nat.zero_le _, Nat.zero_le _⟩) hS hP hD hA [0] [1, 2, 3, 4, 5, 6] rfl rfl (by decide) (by decide) (fun H locs hP hD hS => ?_)
  have hP : va_P D vwCl [(am 3, .inl (cB, 4096, .inl (q 0))), (am 4, .inl (cI, 4096, .inl (q 1))), (am 5, .inl (cI, 4096, .inl (q 2))), (am 6, .inl (cI, 4096, .inl (q 3))), (am 7, .inl (cI, 4096, .inl (q 4))), (am 8, .inl (cI, 4096, .inl (q 5))), (am 0, .inr (6, [.int 0, .ref (am 1), .int (nI cn), .ref (am 2), .int (nI tn), .ref (am 3), .ref (am 4), .ref (am 5), .ref (am 6), .ref (am 7), .ref (am 8), .int (nI mc), .int pl, .int tk, .int (nI fr), .int (nI tj), .ref (am 9), .int (nI dn)]))] H := hP
  have hD : va_D A [(am 3, .inl (cB, 4096, .inl (q 0))), (am 4, .inl (cI, 4096, .inl (q 1))), (am 5, .inl (cI, 4096, .inl (q 2))), (am 6, .inl (cI, 4096, .inl (q 3))), (am 7, .inl (cI, 4096, .inl (q 4))), (am 8, .inl (cI, 4096, .inl (q 5))), (am 0, .inr (6, [.int 0, .ref (am 1), .int (nI cn), .ref (am 2), .int (nI tn), .ref (am 3), .ref (am 4), .ref (am 5), .ref (am 6), .ref (am 7), .ref (am 8), .int (nI mc), .int pl, .int tk, .int (nI fr), .int (nI tj), .ref (am 9), .int (nI dn)]))] := hD
  refine lv_if_eq (tgt := 17) hx hb d_MO_begins_5 (by decide) (fun c_5 => ?_) (fun c_5 => ?_)
  · have c_5 := tt_b0.mp c_5
    refine lv_iconst (v := (-1)) hx hb d_MO_begins_17 (by decide) ?_
    have o_r : ((-1) : Int32) = (if tm_isT mc x = true then q 2 x.toNatClampNeg else -1) := by simp [c_5]
    have hP9 : va_P D vwCl [(am 0, .inr (6, [.int 0, .ref (am 1), .int (nI cn), .ref (am 2), .int (nI tn), .ref (am 3), .ref (am 4), .ref (am 5), .ref (am 6), .ref (am 7), .ref (am 8), .int (nI mc), .int pl, .int tk, .int (nI fr), .int (nI tj), .ref (am 9), .int (nI dn)])), (am 3, .inl (cB, 4096, .inl (q 0))), (am 4, .inl (cI, 4096, .inl (q 1))), (am 5, .inl (cI, 4096, .inl (q 2))), (am 6, .inl (cI, 4096, .inl (q 3))), (am 7, .inl (cI, 4096, .inl (q 4))), (am 8, .inl (cI, 4096, .inl (q 5)))] H := hP.sub [6, 0, 1, 2, 3, 4, 5] rfl
    have hD9 : va_D A [(am 0, .inr (6, [.int 0, .ref (am 1), .int (nI cn), .ref (am 2), .int (nI tn), .ref (am 3), .ref (am 4), .ref (am 5), .ref (am 6), .ref (am 7), .ref (am 8), .int (nI mc), .int pl, .int tk, .int (nI fr), .int (nI tj), .ref (am 9), .int (nI dn)])), (am 3, .inl (cB, 4096, .inl (q 0))), (am 4, .inl (cI, 4096, .inl (q 1))), (am 5, .inl (cI, 4096, .inl (q 2))), (am 6, .inl (cI, 4096, .inl (q 3))), (am 7, .inl (cI, 4096, .inl (q 4))), (am 8, .inl (cI, 4096, .inl (q 5)))] := hD.sub [6, 0, 1, 2, 3, 4, 5] (by decide) rfl
    exact W.iret (v := (-1)) hx hb hr (fun t ht hW => ⟨⟨_, (), rfl, o_r, by rw [ht]; exact hP9, hD9⟩, hS.F ht⟩) hS.2.2 d_MO_begins_18
  · have c_5 := tt_bn0.mp c_5
    have hv9 := tm_isT_t c_5
    refine lv_aload_n hx hb d_MO_begins_8 rfl (lv_at hl 0 rfl) ?_
    refine va_get (D := D) (ci := 6) (v := .ref (am 5)) (C := R_MO) (T := F_MO) (N := 18) hx hb htT i_MO hown hK hP 6 rfl rfl 7 (by decide) (htT _ k_642) (fun _ h9 => h9) rfl d_MO_begins_9 ?_
    refine lv_iload_n hx hb d_MO_begins_12 rfl (lv_at hl 1 rfl) ?_
    refine va_iald (D := D) hx hb hK hP 2 0 rfl rfl (tm_isv hv9.1 hv9.2 hm) d_MO_begins_13 ?_
    refine lv_goto (tgt := 18) hx hb d_MO_begins_14 (by decide) ?_
    have o_r : ((q 2) x.toNatClampNeg) = (if tm_isT mc x = true then q 2 x.toNatClampNeg else -1) := by simp [c_5]
    have hP9 : va_P D vwCl [(am 0, .inr (6, [.int 0, .ref (am 1), .int (nI cn), .ref (am 2), .int (nI tn), .ref (am 3), .ref (am 4), .ref (am 5), .ref (am 6), .ref (am 7), .ref (am 8), .int (nI mc), .int pl, .int tk, .int (nI fr), .int (nI tj), .ref (am 9), .int (nI dn)])), (am 3, .inl (cB, 4096, .inl (q 0))), (am 4, .inl (cI, 4096, .inl (q 1))), (am 5, .inl (cI, 4096, .inl (q 2))), (am 6, .inl (cI, 4096, .inl (q 3))), (am 7, .inl (cI, 4096, .inl (q 4))), (am 8, .inl (cI, 4096, .inl (q 5)))] H := hP.sub [6, 0, 1, 2, 3, 4, 5] rfl
    have hD9 : va_D A [(am 0, .inr (6, [.int 0, .ref (am 1), .int (nI cn), .ref (am 2), .int (nI tn), .ref (am 3), .ref (am 4), .ref (am 5), .ref (am 6), .ref (am 7), .ref (am 8), .int (nI mc), .int pl, .int tk, .int (nI fr), .int (nI tj), .ref (am 9), .int (nI dn)])), (am 3, .inl (cB, 4096, .inl (q 0))), (am 4, .inl (cI, 4096, .inl (q 1))), (am 5, .inl (cI, 4096, .inl (q 2))), (am 6, .inl (cI, 4096, .inl (q 3))), (am 7, .inl (cI, 4096, .inl (q 4))), (am 8, .inl (cI, 4096, .inl (q 5)))] := hD.sub [6, 0, 1, 2, 3, 4, 5] (by decide) rfl
    exact W.iret (v := (q 2) x.toNatClampNeg) hx hb hr (fun t ht hW => ⟨⟨_, (), rfl, o_r, by rw [ht]; exact hP9, hD9⟩, hS.F ht⟩) hS.2.2 d_MO_begins_18
abbrev rm_MO_ends : Room := { frames := 1, cells := 0, slots := 0, locals := 21 }
abbrev q_MO_ends (D : va_G) (cI cB cL : ClassId) (am : Nat → Nat) (ft : Int32) (cn tn mc : Nat) (pl tk : Int32) (fr tj dn : Nat) (q : Nat → Nat → Int32) (x : Int32) (A : Nat → Prop) : Array Value → State → Outcome → State → Prop := va_Qi (fun r9 _ => r9 = (if tm_isT mc x = true then q 3 x.toNatClampNeg else -1)) (fun (_ : Unit) t => va_P D vwCl [(am 0, .inr (6, [.int 0, .ref (am 1), .int (nI cn), .ref (am 2), .int (nI tn), .ref (am 3), .ref (am 4), .ref (am 5), .ref (am 6), .ref (am 7), .ref (am 8), .int (nI mc), .int pl, .int tk, .int (nI fr), .int (nI tj), .ref (am 9), .int (nI dn)])), (am 3, .inl (cB, 4096, .inl (q 0))), (am 4, .inl (cI, 4096, .inl (q 1))), (am 5, .inl (cI, 4096, .inl (q 2))), (am 6, .inl (cI, 4096, .inl (q 3))), (am 7, .inl (cI, 4096, .inl (q 4))), (am 8, .inl (cI, 4096, .inl (q 5)))] t.heap ∧ va_D A [(am 0, .inr (6, [.int 0, .ref (am 1), .int (nI cn), .ref (am 2), .int (nI tn), .ref (am 3), .ref (am 4), .ref (am 5), .ref (am 6), .ref (am 7), .ref (am 8), .int (nI mc), .int pl, .int tk, .int (nI fr), .int (nI tj), .ref (am 9), .int (nI dn)])), (am 3, .inl (cB, 4096, .inl (q 0))), (am 4, .inl (cI, 4096, .inl (q 1))), (am 5, .inl (cI, 4096, .inl (q 2))), (am 6, .inl (cI, 4096, .inl (q 3))), (am 7, .inl (cI, 4096, .inl (q 4))), (am 8, .inl (cI, 4096, .inl (q 5)))]) A
set_option maxHeartbeats 4000000 in
set_option maxRecDepth 100000 in
theorem c_MO_ends (l : Launch) (D : va_G) (cI cB cL : ClassId) (am : Nat → Nat) (ft : Int32) (cn tn mc : Nat) (pl tk : Int32) (fr tj dn : Nat) (q : Nat → Nat → Int32) (x : Int32) (hm : mc ≤ 4096) (sz : Nat) : Met l y_MO_ends w_MO_ends rm_MO_ends (va_Pc [.ref (am 0), .int x] (fun U => U.heap.size = sz ∧ va_P D vwCl [(am 0, .inr (6, [.int ft, .ref (am 1), .int (nI cn), .ref (am 2), .int (nI tn), .ref (am 3), .ref (am 4), .ref (am 5), .ref (am 6), .ref (am 7), .ref (am 8), .int (nI mc), .int pl, .int tk, .int (nI fr), .int (nI tj), .ref (am 9), .int (nI dn)])), (am 3, .inl (cB, 4096, .inl (q 0))), (am 4, .inl (cI, 4096, .inl (q 1))), (am 5, .inl (cI, 4096, .inl (q 2))), (am 6, .inl (cI, 4096, .inl (q 3))), (am 7, .inl (cI, 4096, .inl (q 4))), (am 8, .inl (cI, 4096, .inl (q 5)))] U.heap ∧ va_K D vwCl (tt_ty cI cB cL) U ∧ va_D (fun _ => True) [(am 0, .inr (6, [.int ft, .ref (am 1), .int (nI cn), .ref (am 2), .int (nI tn), .ref (am 3), .ref (am 4), .ref (am 5), .ref (am 6), .ref (am 7), .ref (am 8), .int (nI mc), .int pl, .int tk, .int (nI fr), .int (nI tj), .ref (am 9), .int (nI dn)])), (am 3, .inl (cB, 4096, .inl (q 0))), (am 4, .inl (cI, 4096, .inl (q 1))), (am 5, .inl (cI, 4096, .inl (q 2))), (am 6, .inl (cI, 4096, .inl (q 3))), (am 7, .inl (cI, 4096, .inl (q 4))), (am 8, .inl (cI, 4096, .inl (q 5)))])) (q_MO_ends D cI cB cL am ft cn tn mc pl tk fr tj dn q x (va_A [(am 0, .inr (6, [.int ft, .ref (am 1), .int (nI cn), .ref (am 2), .int (nI tn), .ref (am 3), .ref (am 4), .ref (am 5), .ref (am 6), .ref (am 7), .ref (am 8), .int (nI mc), .int pl, .int tk, .int (nI fr), .int (nI tj), .ref (am 9), .int (nI dn)])), (am 3, .inl (cB, 4096, .inl (q 0))), (am 4, .inl (cI, 4096, .inl (q 1))), (am 5, .inl (cI, 4096, .inl (q 2))), (am 6, .inl (cI, 4096, .inl (q 3))), (am 7, .inl (cI, 4096, .inl (q 4))), (am 8, .inl (cI, 4096, .inl (q 5)))] sz)) 0 0 (va_A [(am 0, .inr (6, [.int ft, .ref (am 1), .int (nI cn), .ref (am 2), .int (nI tn), .ref (am 3), .ref (am 4), .ref (am 5), .ref (am 6), .ref (am 7), .ref (am 8), .int (nI mc), .int pl, .int tk, .int (nI fr), .int (nI tj), .ref (am 9), .int (nI dn)])), (am 3, .inl (cB, 4096, .inl (q 0))), (am 4, .inl (cI, 4096, .inl (q 1))), (am 5, .inl (cI, 4096, .inl (q 2))), (am 6, .inl (cI, 4096, .inl (q 3))), (am 7, .inl (cI, 4096, .inl (q 4))), (am 8, .inl (cI, 4096, .inl (q 5)))] sz) := by
  refine Met.ofW (cc := b_MO_ends) (maxL := 2) (ret := (some .int)) (by decide) rfl ?_
  intro p e s m args below meth c s₁ B hml hv
  obtain ⟨rfl, hsz, hP, hK, hD0⟩ := hv
  have hx := B.exec
  have hb := B.bytes
  have hr := B.returns
  have hts := atoms_spec (ws := w_MO_ends) B.pre
  have htT : ∀ w ∈ tt_T, w.before _ s = true := fun w h => hts w (List.mem_cons_of_mem _ h)
  have hown : s.vm.findClass R_MO = some m.cls := findClass_of_methodNamed B.named
  have hlocks := B.notSynchronized
  subst hsz
  have hD := hD0.self (sz := s.heap.size)
  generalize hAe : va_A [(am 0, .inr (6, [.int ft, .ref (am 1), .int (nI cn), .ref (am 2), .int (nI tn), .ref (am 3), .ref (am 4), .ref (am 5), .ref (am 6), .ref (am 7), .ref (am 8), .int (nI mc), .int pl, .int tk, .int (nI fr), .int (nI tj), .ref (am 9), .int (nI dn)])), (am 3, .inl (cB, 4096, .inl (q 0))), (am 4, .inl (cI, 4096, .inl (q 1))), (am 5, .inl (cI, 4096, .inl (q 2))), (am 6, .inl (cI, 4096, .inl (q 3))), (am 7, .inl (cI, 4096, .inl (q 4))), (am 8, .inl (cI, 4096, .inl (q 5)))] s.heap.size = A at hD ⊢
  have hA : ∀ q : Nat, s.heap.size ≤ q → A q := fun q h => by rw [← hAe]; exact Or.inr h
  have hS : va_S A s.heap s.heap [] := va_S.rf
  have hl := lv_entry ([.ref (am 0), .int x]) (n := 2) (Nat.le_of_ble_eq_true rfl)
  rw [lg_entry_eq]
  generalize (lg_sl ([.ref (am 0), .int x]) ++ List.replicate (2 - (lg_sl ([.ref (am 0), .int x])).length) Slot.unset).toArray = ls at hl ⊢
  have hl : lv_has ls 2 [(0, .ref (am 0)), (1, .int x)] := hl
  have hP : va_P D vwCl [(am 0, .inr (6, [.int ft, .ref (am 1), .int (nI cn), .ref (am 2), .int (nI tn), .ref (am 3), .ref (am 4), .ref (am 5), .ref (am 6), .ref (am 7), .ref (am 8), .int (nI mc), .int pl, .int tk, .int (nI fr), .int (nI tj), .ref (am 9), .int (nI dn)])), (am 3, .inl (cB, 4096, .inl (q 0))), (am 4, .inl (cI, 4096, .inl (q 1))), (am 5, .inl (cI, 4096, .inl (q 2))), (am 6, .inl (cI, 4096, .inl (q 3))), (am 7, .inl (cI, 4096, .inl (q 4))), (am 8, .inl (cI, 4096, .inl (q 5)))] s.heap := hP
  refine lv_aload_n hx hb d_MO_ends_0 rfl (lv_at hl 0 rfl) ?_
  refine lv_iload_n hx hb d_MO_ends_1 rfl (lv_at hl 1 rfl) ?_
  refine tt_muI (wr := [(am 3, .inl (cB, 4096, .inl (q 0))), (am 4, .inl (cI, 4096, .inl (q 1))), (am 5, .inl (cI, 4096, .inl (q 2))), (am 6, .inl (cI, 4096, .inl (q 3))), (am 7, .inl (cI, 4096, .inl (q 4))), (am 8, .inl (cI, 4096, .inl (q 5)))]) (va_runV (As := [.int x]) (rest := []) ⟨hx, hb, hml, hown, hts⟩ (c_MO_isTerm l D cI cB cL am ft cn tn mc pl tk fr tj dn x _) (cwV 1 hts (tt_gV k_792 k_794 ks_36 k_7 k_795) rfl rfl rfl hv_MO_isTerm ⟨Nat.le_of_ble_eq_true rfl, Nat.le_of_ble_eq_true rfl⟩) (tt_mupreV (w := [(am 0, .inr (6, [.int ft, .ref (am 1), .int (nI cn), .ref (am 2), .int (nI tn), .ref (am 3), .ref (am 4), .ref (am 5), .ref (am 6), .ref (am 7), .ref (am 8), .int (nI mc), .int pl, .int tk, .int (nI fr), .int (nI tj), .ref (am 9), .int (nI dn)]))]) hK hP hD [0] rfl (by decide) rfl (va_recv hK hP (ci := 6) (q0 := 0) rfl rfl)) rfl rfl hl.1 rfl (lv_room (Nat.le_of_ble_eq_true rfl)) d_MO_ends_2 ⟨Nat.zero_le _, Nat.zero_le _⟩) hS hP hD hA [0] [1, 2, 3, 4, 5, 6] rfl rfl (by decide) (by decide) (fun H locs hP hD hS => ?_)
  have hP : va_P D vwCl [(am 3, .inl (cB, 4096, .inl (q 0))), (am 4, .inl (cI, 4096, .inl (q 1))), (am 5, .inl (cI, 4096, .inl (q 2))), (am 6, .inl (cI, 4096, .inl (q 3))), (am 7, .inl (cI, 4096, .inl (q 4))), (am 8, .inl (cI, 4096, .inl (q 5))), (am 0, .inr (6, [.int 0, .ref (am 1), .int (nI cn), .ref (am 2), .int (nI tn), .ref (am 3), .ref (am 4), .ref (am 5), .ref (am 6), .ref (am 7), .ref (am 8), .int (nI mc), .int pl, .int tk, .int (nI fr), .int (nI tj), .ref (am 9), .int (nI dn)]))] H := hP
  have hD : va_D A [(am 3, .inl (cB, 4096, .inl (q 0))), (am 4, .inl (cI, 4096, .inl (q 1))), (am 5, .inl (cI, 4096, .inl (q 2))), (am 6, .inl (cI, 4096, .inl (q 3))), (am 7, .inl (cI, 4096, .inl (q 4))), (am 8, .inl (cI, 4096, .inl (q 5))), (am 0, .inr (6, [.int 0, .ref (am 1), .int (nI cn), .ref (am 2), .int (nI tn), .ref (am 3), .ref (am 4), .ref (am 5), .ref (am 6), .ref (am 7), .ref (am 8), .int (nI mc), .int pl, .int tk, .int (nI fr), .int (nI tj), .ref (am 9), .int (nI dn)]))] := hD
  refine lv_if_eq (tgt := 17) hx hb d_MO_ends_5 (by decide) (fun c_5 => ?_) (fun c_5 => ?_)
  · have c_5 := tt_b0.mp c_5
    refine lv_iconst (v := (-1)) hx hb d_MO_ends_17 (by decide) ?_
    have o_r : ((-1) : Int32) = (if tm_isT mc x = true then q 3 x.toNatClampNeg else -1) := by simp [c_5]
    have hP9 : va_P D vwCl [(am 0, .inr (6, [.int 0, .ref (am 1), .int (nI cn), .ref (am 2), .int (nI tn), .ref (am 3), .ref (am 4), .ref (am 5), .ref (am 6), .ref (am 7), .ref (am 8), .int (nI mc), .int pl, .int tk, .int (nI fr), .int (nI tj), .ref (am 9), .int (nI dn)])), (am 3, .inl (cB, 4096, .inl (q 0))), (am 4, .inl (cI, 4096, .inl (q 1))), (am 5, .inl (cI, 4096, .inl (q 2))), (am 6, .inl (cI, 4096, .inl (q 3))), (am 7, .inl (cI, 4096, .inl (q 4))), (am 8, .inl (cI, 4096, .inl (q 5)))] H := hP.sub [6, 0, 1, 2, 3, 4, 5] rfl
    have hD9 : va_D A [(am 0, .inr (6, [.int 0, .ref (am 1), .int (nI cn), .ref (am 2), .int (nI tn), .ref (am 3), .ref (am 4), .ref (am 5), .ref (am 6), .ref (am 7), .ref (am 8), .int (nI mc), .int pl, .int tk, .int (nI fr), .int (nI tj), .ref (am 9), .int (nI dn)])), (am 3, .inl (cB, 4096, .inl (q 0))), (am 4, .inl (cI, 4096, .inl (q 1))), (am 5, .inl (cI, 4096, .inl (q 2))), (am 6, .inl (cI, 4096, .inl (q 3))), (am 7, .inl (cI, 4096, .inl (q 4))), (am 8, .inl (cI, 4096, .inl (q 5)))] := hD.sub [6, 0, 1, 2, 3, 4, 5] (by decide) rfl
    exact W.iret (v := (-1)) hx hb hr (fun t ht hW => ⟨⟨_, (), rfl, o_r, by rw [ht]; exact hP9, hD9⟩, hS.F ht⟩) hS.2.2 d_MO_ends_18
  · have c_5 := tt_bn0.mp c_5
    have hv9 := tm_isT_t c_5
    refine lv_aload_n hx hb d_MO_ends_8 rfl (lv_at hl 0 rfl) ?_
    refine va_get (D := D) (ci := 6) (v := .ref (am 6)) (C := R_MO) (T := F_MO) (N := 18) hx hb htT i_MO hown hK hP 6 rfl rfl 8 (by decide) (htT _ k_643) (fun _ h9 => h9) rfl d_MO_ends_9 ?_
    refine lv_iload_n hx hb d_MO_ends_12 rfl (lv_at hl 1 rfl) ?_
    refine va_iald (D := D) hx hb hK hP 3 0 rfl rfl (tm_isv hv9.1 hv9.2 hm) d_MO_ends_13 ?_
    refine lv_goto (tgt := 18) hx hb d_MO_ends_14 (by decide) ?_
    have o_r : ((q 3) x.toNatClampNeg) = (if tm_isT mc x = true then q 3 x.toNatClampNeg else -1) := by simp [c_5]
    have hP9 : va_P D vwCl [(am 0, .inr (6, [.int 0, .ref (am 1), .int (nI cn), .ref (am 2), .int (nI tn), .ref (am 3), .ref (am 4), .ref (am 5), .ref (am 6), .ref (am 7), .ref (am 8), .int (nI mc), .int pl, .int tk, .int (nI fr), .int (nI tj), .ref (am 9), .int (nI dn)])), (am 3, .inl (cB, 4096, .inl (q 0))), (am 4, .inl (cI, 4096, .inl (q 1))), (am 5, .inl (cI, 4096, .inl (q 2))), (am 6, .inl (cI, 4096, .inl (q 3))), (am 7, .inl (cI, 4096, .inl (q 4))), (am 8, .inl (cI, 4096, .inl (q 5)))] H := hP.sub [6, 0, 1, 2, 3, 4, 5] rfl
    have hD9 : va_D A [(am 0, .inr (6, [.int 0, .ref (am 1), .int (nI cn), .ref (am 2), .int (nI tn), .ref (am 3), .ref (am 4), .ref (am 5), .ref (am 6), .ref (am 7), .ref (am 8), .int (nI mc), .int pl, .int tk, .int (nI fr), .int (nI tj), .ref (am 9), .int (nI dn)])), (am 3, .inl (cB, 4096, .inl (q 0))), (am 4, .inl (cI, 4096, .inl (q 1))), (am 5, .inl (cI, 4096, .inl (q 2))), (am 6, .inl (cI, 4096, .inl (q 3))), (am 7, .inl (cI, 4096, .inl (q 4))), (am 8, .inl (cI, 4096, .inl (q 5)))] := hD.sub [6, 0, 1, 2, 3, 4, 5] (by decide) rfl
    exact W.iret (v := (q 3) x.toNatClampNeg) hx hb hr (fun t ht hW => ⟨⟨_, (), rfl, o_r, by rw [ht]; exact hP9, hD9⟩, hS.F ht⟩) hS.2.2 d_MO_ends_18
