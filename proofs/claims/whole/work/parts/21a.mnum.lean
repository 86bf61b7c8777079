abbrev rm_MO_bits : Room := { frames := 0, cells := 0, slots := 0, locals := 0 }
abbrev q_MO_bits (D : va_G) (cI cB cL : ClassId) (am : Nat → Nat) (ft : Int32) (cn tn mc : Nat) (pl tk : Int32) (fr tj dn : Nat) (dg : Nat → Nat) : Array Value → State → Outcome → State → Prop := va_Qi (fun r9 (_ : Unit) => r9 = (nI (tm_bits dg dn))) (fun _ _ => True) (fun _ => False)
set_option maxHeartbeats 4000000 in
set_option maxRecDepth 100000 in
theorem c_MO_bits (l : Launch) (D : va_G) (cI cB cL : ClassId) (am : Nat → Nat) (ft : Int32) (cn tn mc : Nat) (pl tk : Int32) (fr tj dn : Nat) (dg : Nat → Nat) (hd : dn ≤ 80) (hd2 : ∀ k, k < dn → dg k < 65536) : Met l y_MO_bits w_MO_bits rm_MO_bits (va_Pc [.ref (am 0)] (fun U => va_P D vwCl [(am 0, .inr (6, [.int ft, .ref (am 1), .int (nI cn), .ref (am 2), .int (nI tn), .ref (am 3), .ref (am 4), .ref (am 5), .ref (am 6), .ref (am 7), .ref (am 8), .int (nI mc), .int pl, .int tk, .int (nI fr), .int (nI tj), .ref (am 9), .int (nI dn)])), (am 9, .inl (cI, 80, .inl (tt_nf dg)))] U.heap ∧ va_K D vwCl (tt_ty cI cB cL) U)) (q_MO_bits D cI cB cL am ft cn tn mc pl tk fr tj dn dg) 0 0 (fun _ => False) := by
  refine Met.ofW (cc := b_MO_bits) (maxL := 3) (ret := (some .int)) (by decide) rfl ?_
  intro p e s m args below meth c s₁ B hml hv
  obtain ⟨rfl, hP, hK⟩ := hv
  have hx := B.exec
  have hb := B.bytes
  have hr := B.returns
  have hts := atoms_spec (ws := w_MO_bits) B.pre
  have htT : ∀ w ∈ tt_T, w.before _ s = true := fun w h => hts w (List.mem_cons_of_mem _ h)
  have hown : s.vm.findClass R_MO = some m.cls := findClass_of_methodNamed B.named
  have hlocks := B.notSynchronized
  have hS : va_S (fun _ => False) s.heap s.heap [] := va_S.rf
  have hl := lv_entry ([.ref (am 0)]) (n := 3) (Nat.le_of_ble_eq_true rfl)
  rw [lg_entry_eq]
  generalize (lg_sl ([.ref (am 0)]) ++ List.replicate (3 - (lg_sl ([.ref (am 0)])).length) Slot.unset).toArray = ls at hl ⊢
  have hl : lv_has ls 3 [(0, .ref (am 0))] := hl
  have hP : va_P D vwCl [(am 0, .inr (6, [.int ft, .ref (am 1), .int (nI cn), .ref (am 2), .int (nI tn), .ref (am 3), .ref (am 4), .ref (am 5), .ref (am 6), .ref (am 7), .ref (am 8), .int (nI mc), .int pl, .int tk, .int (nI fr), .int (nI tj), .ref (am 9), .int (nI dn)])), (am 9, .inl (cI, 80, .inl (tt_nf dg)))] s.heap := hP
  refine lv_aload_n hx hb d_MO_bits_0 rfl (lv_at hl 0 rfl) ?_
  refine va_get (D := D) (ci := 6) (v := .int (nI dn)) (C := R_MO) (T := F_MO) (N := 18) hx hb htT i_MO hown hK hP 0 rfl rfl 17 (by decide) (htT _ k_652) (fun _ h9 => h9) rfl d_MO_bits_1 ?_
  refine lv_if_ne (tgt := 9) hx hb d_MO_bits_4 (by decide) (fun c_4 => ?_) (fun c_4 => ?_)
  · have c_4 : ¬ dn = 0 := fun z9 => c_4 ((nI_eq (a := dn) (b := 0) (by omega) (by omega)).mpr z9)
    have hd3 := hd2 (dn - 1) (by omega)
    refine lv_bipush (v := 16) hx hb d_MO_bits_9 (by decide) ?_
    refine lv_aload_n hx hb d_MO_bits_11 rfl (lv_at hl 0 rfl) ?_
    refine va_get (D := D) (ci := 6) (v := .int (nI dn)) (C := R_MO) (T := F_MO) (N := 18) hx hb htT i_MO hown hK hP 0 rfl rfl 17 (by decide) (htT _ k_652) (fun _ h9 => h9) rfl d_MO_bits_12 ?_
    refine lv_iconst (v := 1) hx hb d_MO_bits_15 (by decide) ?_
    refine lv_isub hx hb d_MO_bits_16 ?_
    refine tt_ti (show (nI dn) - 1 = nI (dn - 1) from pk_sub (a := dn) (b := 1) (by omega)) ?_
    refine lv_imul hx hb d_MO_bits_17 ?_
    refine tt_ti (show 16 * (nI (dn - 1)) = nI (16 * (dn - 1)) from pk_mul 16 (dn - 1)) ?_
    refine lv_istore_n (lv' := [(1, .int (nI (16 * (dn - 1)))), (0, .ref (am 0))]) hx hb d_MO_bits_18 rfl hl (by decide) rfl (fun ls hl => ?_)
    refine lv_aload_n hx hb d_MO_bits_19 rfl (lv_at hl 1 rfl) ?_
    refine va_get (D := D) (ci := 6) (v := .ref (am 9)) (C := R_MO) (T := F_MO) (N := 18) hx hb htT i_MO hown hK hP 0 rfl rfl 16 (by decide) (htT _ k_651) (fun _ h9 => h9) rfl d_MO_bits_20 ?_
    refine lv_aload_n hx hb d_MO_bits_23 rfl (lv_at hl 1 rfl) ?_
    refine va_get (D := D) (ci := 6) (v := .int (nI dn)) (C := R_MO) (T := F_MO) (N := 18) hx hb htT i_MO hown hK hP 0 rfl rfl 17 (by decide) (htT _ k_652) (fun _ h9 => h9) rfl d_MO_bits_24 ?_
    refine lv_iconst (v := 1) hx hb d_MO_bits_27 (by decide) ?_
    refine lv_isub hx hb d_MO_bits_28 ?_
    refine tt_ti (show (nI dn) - 1 = nI (dn - 1) from pk_sub (a := dn) (b := 1) (by omega)) ?_
    refine va_iald (D := D) hx hb hK hP 1 0 rfl rfl (vp_in_nI (by omega) (by omega)) d_MO_bits_29 ?_
    refine tt_ti (show (tt_nf dg) (nI (dn - 1)).toNatClampNeg = (tt_nf dg) (dn - 1) from by rw [nI_clamp (by omega)]) ?_
    refine tt_ti (show (tt_nf dg) (dn - 1) = nI (dg (dn - 1)) from rfl) ?_
    refine lv_istore_n (lv' := [(2, .int (nI (dg (dn - 1)))), (1, .int (nI (16 * (dn - 1)))), (0, .ref (am 0))]) hx hb d_MO_bits_30 rfl hl (by decide) rfl (fun ls hl => ?_)
    have cut_31 : ∀ (k9 : Nat) (u : Nat) (v : Nat) (_ : v < k9) (hv : v < 65536 ∧ u ≤ 1280 + (65536 - v)) (he : u + tm_bl v = tm_bits dg dn) (H : Heap) (locs : List Loc), va_P D vwCl [(am 0, .inr (6, [.int ft, .ref (am 1), .int (nI cn), .ref (am 2), .int (nI tn), .ref (am 3), .ref (am 4), .ref (am 5), .ref (am 6), .ref (am 7), .ref (am 8), .int (nI mc), .int pl, .int tk, .int (nI fr), .int (nI tj), .ref (am 9), .int (nI dn)])), (am 9, .inl (cI, 80, .inl (tt_nf dg)))] H → va_S (fun _ => False) s.heap H locs → ∀ ls : Array Slot, lv_has ls 3 [(1, .int (nI u)), (2, .int (nI v))] → W p l e (headSpec w_MO_bits rm_MO_bits).room s m ([.ref (am 0)] : List Value).toArray below meth c H locs 0 0 (MQ below (q_MO_bits D cI cB cL am ft cn tn mc pl tk fr tj dn dg) ([.ref (am 0)] : List Value).toArray s 0 0 (fun _ => False)) (F0 m 31 ls []) := by
      intro k9
      induction k9 with
      | zero => intro u v h9; exact absurd h9 (Nat.not_lt_zero _)
      | succ k9 ih_31 =>
        intro u v h9 hv he H locs hP hS ls hl
        refine lv_iload_n hx hb d_MO_bits_31 rfl (lv_at hl 1 rfl) ?_
        refine lv_if_le (tgt := 45) hx hb d_MO_bits_32 (by decide) (fun c_32 => ?_) (fun c_32 => ?_)
        · have c_32 : v ≤ 0 := (nI_leI (a := v) (b := 0) (by omega) (by omega)).mp c_32
          refine lv_iload_n hx hb d_MO_bits_45 rfl (lv_at hl 0 rfl) ?_
          have o_r : (nI u) = (nI (tm_bits dg dn)) := by rw [← he, show v = 0 by omega, tm_bl_0, Nat.add_zero]
          exact W.iret (v := nI u) hx hb hr (fun t ht hW => ⟨⟨_, (), rfl, o_r, trivial⟩, hS.F ht⟩) hS.2.2 d_MO_bits_46
        · have c_32 : ¬ v ≤ 0 := fun z9 => c_32 ((nI_leI (a := v) (b := 0) (by omega) (by omega)).mpr z9)
          have c_32 := Nat.not_le.mp c_32
          refine lv_iinc (v := nI (u + 1)) (lv' := [(1, .int (nI (u + 1))), (2, .int (nI v))]) hx hb d_MO_bits_35 hl (k := 0) rfl (nI_add u 1) (by decide) rfl (fun ls hl => ?_)
          refine lv_iload_n hx hb d_MO_bits_38 rfl (lv_at hl 1 rfl) ?_
          refine lv_iconst (v := 2) hx hb d_MO_bits_39 (by decide) ?_
          refine lv_idiv hx hb d_MO_bits_40 (by decide) ?_
          refine tt_ti (show (nI v) / 2 = nI (v / 2) from pk_div (a := v) (d := 2) (by omega) (by omega) (by omega)) ?_
          refine lv_istore_n (lv' := [(2, .int (nI (v / 2))), (1, .int (nI (u + 1)))]) hx hb d_MO_bits_41 rfl hl (by decide) rfl (fun ls hl => ?_)
          refine lv_goto (tgt := 31) hx hb d_MO_bits_42 (by decide) ?_
          exact ih_31 (u + 1) (v / 2) (by omega) (by omega) (by rw [tm_bl_in (by omega)] at he; omega) _ _ (hP.sub (ws' := [(am 0, .inr (6, [.int ft, .ref (am 1), .int (nI cn), .ref (am 2), .int (nI tn), .ref (am 3), .ref (am 4), .ref (am 5), .ref (am 6), .ref (am 7), .ref (am 8), .int (nI mc), .int pl, .int tk, .int (nI fr), .int (nI tj), .ref (am 9), .int (nI dn)])), (am 9, .inl (cI, 80, .inl (tt_nf dg)))]) [0, 1] rfl) hS ls (lv_sub hl [1, 0] rfl)
    exact cut_31 _ (16 * (dn - 1)) (dg (dn - 1)) (Nat.lt_succ_self _) (by have := hd2 (dn - 1) (by omega); omega) (by simp [tm_bits, c_4]) _ _ (hP.sub (ws' := [(am 0, .inr (6, [.int ft, .ref (am 1), .int (nI cn), .ref (am 2), .int (nI tn), .ref (am 3), .ref (am 4), .ref (am 5), .ref (am 6), .ref (am 7), .ref (am 8), .int (nI mc), .int pl, .int tk, .int (nI fr), .int (nI tj), .ref (am 9), .int (nI dn)])), (am 9, .inl (cI, 80, .inl (tt_nf dg)))]) [0, 1] rfl) hS ls (lv_sub hl [1, 0] rfl)
  · have c_4 : dn = 0 := (nI_eq (a := dn) (b := 0) (by omega) (by omega)).mp c_4
    refine lv_iconst (v := 0) hx hb d_MO_bits_7 (by decide) ?_
    have o_r : (0 : Int32) = (nI (tm_bits dg dn)) := by simp [tm_bits, eq_true c_4]; rfl
    exact W.iret (v := 0) hx hb hr (fun t ht hW => ⟨⟨_, (), rfl, o_r, trivial⟩, hS.F ht⟩) hS.2.2 d_MO_bits_8
abbrev rm_MO_isNumber : Room := { frames := 1, cells := 0, slots := 0, locals := 22 }
abbrev q_MO_isNumber (D : va_G) (cI cB cL : ClassId) (am : Nat → Nat) (ft : Int32) (cn tn mc : Nat) (pl tk : Int32) (fr tj dn : Nat) (f : Nat → Int32) (dg : Nat → Nat) (x y : Nat) (A : Nat → Prop) : Array Value → State → Outcome → State → Prop := va_Qi (fun r9 _ => r9 = (tt_b ((tm_nl f tn y (tm_st0 f tn x) (dg, 0)).1 && decide (tm_bits (tm_nl f tn y (tm_st0 f tn x) (dg, 0)).2.1 (tm_nl f tn y (tm_st0 f tn x) (dg, 0)).2.2 ≤ 1024)))) (fun (_ : Unit) t => va_P D vwCl [(am 0, .inr (6, [.int ft, .ref (am 1), .int (nI cn), .ref (am 2), .int (nI tn), .ref (am 3), .ref (am 4), .ref (am 5), .ref (am 6), .ref (am 7), .ref (am 8), .int (nI mc), .int pl, .int tk, .int (nI fr), .int (nI tj), .ref (am 9), .int (nI ((tm_nl f tn y (tm_st0 f tn x) (dg, 0)).2.2))])), (am 2, .inl (cB, 16384, .inl f)), (am 9, .inl (cI, 80, .inl (tt_nf ((tm_nl f tn y (tm_st0 f tn x) (dg, 0)).2.1))))] t.heap ∧ va_D A [(am 0, .inr (6, [.int ft, .ref (am 1), .int (nI cn), .ref (am 2), .int (nI tn), .ref (am 3), .ref (am 4), .ref (am 5), .ref (am 6), .ref (am 7), .ref (am 8), .int (nI mc), .int pl, .int tk, .int (nI fr), .int (nI tj), .ref (am 9), .int (nI ((tm_nl f tn y (tm_st0 f tn x) (dg, 0)).2.2))])), (am 2, .inl (cB, 16384, .inl f)), (am 9, .inl (cI, 80, .inl (tt_nf ((tm_nl f tn y (tm_st0 f tn x) (dg, 0)).2.1))))]) A
set_option maxHeartbeats 4000000 in
set_option maxRecDepth 100000 in
theorem c_MO_isNumber (l : Launch) (D : va_G) (cI cB cL : ClassId) (am : Nat → Nat) (ft : Int32) (cn tn mc : Nat) (pl tk : Int32) (fr tj dn : Nat) (f : Nat → Int32) (dg : Nat → Nat) (x y : Nat) (ht : tn ≤ 16384) (hxy : x < y) (hy : y ≤ tn) (hf : ∀ k, (f k).toInt8.toInt32 = f k) (hdd : ∀ k, tm_st0 f tn x ≤ k → k < y → tt_dig (tt_ch f tn k) = true) (sz : Nat) : Met l y_MO_isNumber w_MO_isNumber rm_MO_isNumber (va_Pc [.ref (am 0), .int (nI x), .int (nI y)] (fun U => U.heap.size = sz ∧ va_P D vwCl [(am 0, .inr (6, [.int ft, .ref (am 1), .int (nI cn), .ref (am 2), .int (nI tn), .ref (am 3), .ref (am 4), .ref (am 5), .ref (am 6), .ref (am 7), .ref (am 8), .int (nI mc), .int pl, .int tk, .int (nI fr), .int (nI tj), .ref (am 9), .int (nI dn)])), (am 2, .inl (cB, 16384, .inl f)), (am 9, .inl (cI, 80, .inl (tt_nf dg)))] U.heap ∧ va_K D vwCl (tt_ty cI cB cL) U ∧ va_D (fun _ => True) [(am 0, .inr (6, [.int ft, .ref (am 1), .int (nI cn), .ref (am 2), .int (nI tn), .ref (am 3), .ref (am 4), .ref (am 5), .ref (am 6), .ref (am 7), .ref (am 8), .int (nI mc), .int pl, .int tk, .int (nI fr), .int (nI tj), .ref (am 9), .int (nI dn)])), (am 2, .inl (cB, 16384, .inl f)), (am 9, .inl (cI, 80, .inl (tt_nf dg)))])) (q_MO_isNumber D cI cB cL am ft cn tn mc pl tk fr tj dn f dg x y (va_A [(am 0, .inr (6, [.int ft, .ref (am 1), .int (nI cn), .ref (am 2), .int (nI tn), .ref (am 3), .ref (am 4), .ref (am 5), .ref (am 6), .ref (am 7), .ref (am 8), .int (nI mc), .int pl, .int tk, .int (nI fr), .int (nI tj), .ref (am 9), .int (nI dn)])), (am 2, .inl (cB, 16384, .inl f)), (am 9, .inl (cI, 80, .inl (tt_nf dg)))] sz)) 0 0 (va_A [(am 0, .inr (6, [.int ft, .ref (am 1), .int (nI cn), .ref (am 2), .int (nI tn), .ref (am 3), .ref (am 4), .ref (am 5), .ref (am 6), .ref (am 7), .ref (am 8), .int (nI mc), .int pl, .int tk, .int (nI fr), .int (nI tj), .ref (am 9), .int (nI dn)])), (am 2, .inl (cB, 16384, .inl f)), (am 9, .inl (cI, 80, .inl (tt_nf dg)))] sz) := by
  refine Met.ofW (cc := b_MO_isNumber) (maxL := 7) (ret := (some .boolean)) (by decide) rfl ?_
  intro p e s m args below meth c s₁ B hml hv
  obtain ⟨rfl, hsz, hP, hK, hD0⟩ := hv
  have hx := B.exec
  have hb := B.bytes
  have hr := B.returns
  have hts := atoms_spec (ws := w_MO_isNumber) B.pre
  have htT : ∀ w ∈ tt_T, w.before _ s = true := fun w h => hts w (List.mem_cons_of_mem _ h)
  have hown : s.vm.findClass R_MO = some m.cls := findClass_of_methodNamed B.named
  have hlocks := B.notSynchronized
  subst hsz
  have hD := hD0.self (sz := s.heap.size)
  generalize hAe : va_A [(am 0, .inr (6, [.int ft, .ref (am 1), .int (nI cn), .ref (am 2), .int (nI tn), .ref (am 3), .ref (am 4), .ref (am 5), .ref (am 6), .ref (am 7), .ref (am 8), .int (nI mc), .int pl, .int tk, .int (nI fr), .int (nI tj), .ref (am 9), .int (nI dn)])), (am 2, .inl (cB, 16384, .inl f)), (am 9, .inl (cI, 80, .inl (tt_nf dg)))] s.heap.size = A at hD ⊢
  have hA : ∀ q : Nat, s.heap.size ≤ q → A q := fun q h => by rw [← hAe]; exact Or.inr h
  have hS : va_S A s.heap s.heap [] := va_S.rf
  have hl := lv_entry ([.ref (am 0), .int (nI x), .int (nI y)]) (n := 7) (Nat.le_of_ble_eq_true rfl)
  rw [lg_entry_eq]
  generalize (lg_sl ([.ref (am 0), .int (nI x), .int (nI y)]) ++ List.replicate (7 - (lg_sl ([.ref (am 0), .int (nI x), .int (nI y)])).length) Slot.unset).toArray = ls at hl ⊢
  have hl : lv_has ls 7 [(0, .ref (am 0)), (1, .int (nI x)), (2, .int (nI y))] := hl
  have hP : va_P D vwCl [(am 0, .inr (6, [.int ft, .ref (am 1), .int (nI cn), .ref (am 2), .int (nI tn), .ref (am 3), .ref (am 4), .ref (am 5), .ref (am 6), .ref (am 7), .ref (am 8), .int (nI mc), .int pl, .int tk, .int (nI fr), .int (nI tj), .ref (am 9), .int (nI dn)])), (am 2, .inl (cB, 16384, .inl f)), (am 9, .inl (cI, 80, .inl (tt_nf dg)))] s.heap := hP
  refine lv_aload_n hx hb d_MO_isNumber_0 rfl (lv_at hl 0 rfl) ?_
  refine lv_iconst (v := 0) hx hb d_MO_isNumber_1 (by decide) ?_
  refine va_put (D := D) (ci := 6) (v := .int 0) (ty := .int) (C := R_MO) (T := F_MO) (N := 18) hx hb htT i_MO t_MO t_MO_ok n_MO hown hK hP hD hS 0 rfl rfl 17 (by decide) (htT _ k_652) (fun _ h9 => h9) rfl (by decide +kernel) rfl rfl (Nat.le_of_ble_eq_true rfl) d_MO_isNumber_2 (fun H locs hP hD hS => ?_)
  have hP : va_P D vwCl [(am 0, .inr (6, [.int ft, .ref (am 1), .int (nI cn), .ref (am 2), .int (nI tn), .ref (am 3), .ref (am 4), .ref (am 5), .ref (am 6), .ref (am 7), .ref (am 8), .int (nI mc), .int pl, .int tk, .int (nI fr), .int (nI tj), .ref (am 9), .int 0])), (am 2, .inl (cB, 16384, .inl f)), (am 9, .inl (cI, 80, .inl (tt_nf dg)))] H := hP
  have hD : va_D A [(am 0, .inr (6, [.int ft, .ref (am 1), .int (nI cn), .ref (am 2), .int (nI tn), .ref (am 3), .ref (am 4), .ref (am 5), .ref (am 6), .ref (am 7), .ref (am 8), .int (nI mc), .int pl, .int tk, .int (nI fr), .int (nI tj), .ref (am 9), .int 0])), (am 2, .inl (cB, 16384, .inl f)), (am 9, .inl (cI, 80, .inl (tt_nf dg)))] := hD
  have h45 := (tt_chraw hf (i := x) (n := tn) (c := 45) (by omega) (by decide) (tt_b7 45 (by decide)))
  refine lv_aload_n hx hb d_MO_isNumber_5 rfl (lv_at hl 0 rfl) ?_
  refine va_get (D := D) (ci := 6) (v := .ref (am 2)) (C := R_MO) (T := F_MO) (N := 18) hx hb htT i_MO hown hK hP 0 rfl rfl 3 (by decide) (htT _ k_638) (fun _ h9 => h9) rfl d_MO_isNumber_6 ?_
  refine lv_iload_n hx hb d_MO_isNumber_9 rfl (lv_at hl 1 rfl) ?_
  refine va_bald (D := D) hx hb hK hP 1 1 rfl rfl (vp_in_nI (by omega) (by omega)) d_MO_isNumber_10 ?_
  refine tt_ti (show f (nI x).toNatClampNeg = f x from by rw [nI_clamp (by omega)]) ?_
  refine lv_bipush (v := 45) hx hb d_MO_isNumber_11 (by decide) ?_
  refine lv_icmp_ne (tgt := 22) hx hb d_MO_isNumber_13 (by decide) (fun c_13 => ?_) (fun c_13 => ?_)
  · skip
    have hs45 : ¬ tt_ch f tn x = 45 := fun z9 => c_13 (h45.mpr z9)
    refine lv_iload_n hx hb d_MO_isNumber_22 rfl (lv_at hl 1 rfl) ?_
    refine lv_istore_n (lv' := [(3, .int (nI x)), (0, .ref (am 0)), (1, .int (nI x)), (2, .int (nI y))]) hx hb d_MO_isNumber_23 rfl hl (by decide) rfl (fun ls hl => ?_)
    have cut_24 : ∀ (k9 : Nat) (j : Nat) (E : Nat → Nat) (d : Nat) (_ : y - j < k9) (hj : tm_st0 f tn x ≤ j ∧ j ≤ y) (hd : d ≤ 66) (hE : ∀ k, k < d → E k < 65536) (he : tm_nl f tn y j (E, d) = tm_nl f tn y (tm_st0 f tn x) (dg, 0)) (H : Heap) (locs : List Loc), va_P D vwCl [(am 0, .inr (6, [.int ft, .ref (am 1), .int (nI cn), .ref (am 2), .int (nI tn), .ref (am 3), .ref (am 4), .ref (am 5), .ref (am 6), .ref (am 7), .ref (am 8), .int (nI mc), .int pl, .int tk, .int (nI fr), .int (nI tj), .ref (am 9), .int (nI d)])), (am 2, .inl (cB, 16384, .inl f)), (am 9, .inl (cI, 80, .inl (tt_nf E)))] H → va_D A [(am 0, .inr (6, [.int ft, .ref (am 1), .int (nI cn), .ref (am 2), .int (nI tn), .ref (am 3), .ref (am 4), .ref (am 5), .ref (am 6), .ref (am 7), .ref (am 8), .int (nI mc), .int pl, .int tk, .int (nI fr), .int (nI tj), .ref (am 9), .int (nI d)])), (am 2, .inl (cB, 16384, .inl f)), (am 9, .inl (cI, 80, .inl (tt_nf E)))] → va_S A s.heap H locs → ∀ ls : Array Slot, lv_has ls 7 [(0, .ref (am 0)), (2, .int (nI y)), (3, .int (nI j))] → W p l e (headSpec w_MO_isNumber rm_MO_isNumber).room s m ([.ref (am 0), .int (nI x), .int (nI y)] : List Value).toArray below meth c H locs 0 0 (MQ below (q_MO_isNumber D cI cB cL am ft cn tn mc pl tk fr tj dn f dg x y A) ([.ref (am 0), .int (nI x), .int (nI y)] : List Value).toArray s 0 0 A) (F0 m 24 ls []) := by
      intro k9
      induction k9 with
      | zero => intro j E d h9; exact absurd h9 (Nat.not_lt_zero _)
      | succ k9 ih_24 =>
        intro j E d h9 hj hd hE he H locs hP hD hS ls hl
        refine lv_iload_n hx hb d_MO_isNumber_24 rfl (lv_at hl 2 rfl) ?_
        refine lv_iload_n hx hb d_MO_isNumber_25 rfl (lv_at hl 1 rfl) ?_
        refine lv_icmp_ge (tgt := 135) hx hb d_MO_isNumber_26 (by decide) (fun c_26 => ?_) (fun c_26 => ?_)
        · have c_26 : y ≤ j := (nI_leI (a := y) (b := j) (by omega) (by omega)).mp c_26
          refine lv_aload_n hx hb d_MO_isNumber_135 rfl (lv_at hl 0 rfl) ?_
          refine tt_roI (va_runV (As := []) (rest := []) ⟨hx, hb, hml, hown, hts⟩ (c_MO_bits l D cI cB cL am ft cn tn mc pl tk fr tj d E (by omega) (by assumption)) (cwV 0 hts (tt_gV k_768 k_770 ks_32 k_7 k_771) rfl rfl rfl hv_MO_bits ⟨Nat.le_of_ble_eq_true rfl, Nat.le_of_ble_eq_true rfl⟩) (tt_ropreV (w := [(am 0, .inr (6, [.int ft, .ref (am 1), .int (nI cn), .ref (am 2), .int (nI tn), .ref (am 3), .ref (am 4), .ref (am 5), .ref (am 6), .ref (am 7), .ref (am 8), .int (nI mc), .int pl, .int tk, .int (nI fr), .int (nI tj), .ref (am 9), .int (nI d)])), (am 9, .inl (cI, 80, .inl (tt_nf E)))]) hK hP [0, 2] rfl (va_recv hK hP (ci := 6) (q0 := 0) rfl rfl)) rfl rfl hl.1 rfl (lv_room (Nat.le_of_ble_eq_true rfl)) d_MO_isNumber_136 ⟨Nat.zero_le _, Nat.zero_le _⟩) hS hP (fun H locs hP hS => ?_)
          have b_136_0 := tm_bits_b E d (by omega) (by first | assumption | exact hN9.2)
          refine lv_sipush (v := 1024) hx hb d_MO_isNumber_139 (by decide) ?_
          refine lv_icmp_gt (tgt := 149) hx hb d_MO_isNumber_142 (by decide) (fun c_142 => ?_) (fun c_142 => ?_)
          · have c_142 : 1024 < (tm_bits E d) := (nI_ltI (a := 1024) (b := (tm_bits E d)) (by omega) (by omega)).mp c_142
            refine lv_iconst (v := 0) hx hb d_MO_isNumber_149 (by decide) ?_
            have o_r : (0 : Int32) = (tt_b ((tm_nl f tn y (tm_st0 f tn x) (dg, 0)).1 && decide (tm_bits (tm_nl f tn y (tm_st0 f tn x) (dg, 0)).2.1 (tm_nl f tn y (tm_st0 f tn x) (dg, 0)).2.2 ≤ 1024))) := by rw [← he, tm_nl, dif_neg (by omega)]; simp [tt_b, c_13, c_26, Nat.not_lt.mpr c_26, c_142, Nat.not_le.mpr c_142] <;> (intros; omega)
            have o_dn2 : ((tm_nl f tn y (tm_st0 f tn x) (dg, 0)).2.2 : Nat) = d := by rw [← he, tm_nl, dif_neg (by omega)]
            have o_dg2 : ((tm_nl f tn y (tm_st0 f tn x) (dg, 0)).2.1) = E := by rw [← he, tm_nl, dif_neg (by omega)]
            have hP9 : va_P D vwCl [(am 0, .inr (6, [.int ft, .ref (am 1), .int (nI cn), .ref (am 2), .int (nI tn), .ref (am 3), .ref (am 4), .ref (am 5), .ref (am 6), .ref (am 7), .ref (am 8), .int (nI mc), .int pl, .int tk, .int (nI fr), .int (nI tj), .ref (am 9), .int (nI d)])), (am 2, .inl (cB, 16384, .inl f)), (am 9, .inl (cI, 80, .inl (tt_nf E)))] H := hP.sub [0, 1, 2] rfl
            have hD9 : va_D A [(am 0, .inr (6, [.int ft, .ref (am 1), .int (nI cn), .ref (am 2), .int (nI tn), .ref (am 3), .ref (am 4), .ref (am 5), .ref (am 6), .ref (am 7), .ref (am 8), .int (nI mc), .int pl, .int tk, .int (nI fr), .int (nI tj), .ref (am 9), .int (nI d)])), (am 2, .inl (cB, 16384, .inl f)), (am 9, .inl (cI, 80, .inl (tt_nf E)))] := hD.sub [0, 1, 2] (by decide) rfl
            have hP9 : va_P D vwCl [(am 0, .inr (6, [.int ft, .ref (am 1), .int (nI cn), .ref (am 2), .int (nI tn), .ref (am 3), .ref (am 4), .ref (am 5), .ref (am 6), .ref (am 7), .ref (am 8), .int (nI mc), .int pl, .int tk, .int (nI fr), .int (nI tj), .ref (am 9), .int (nI ((tm_nl f tn y (tm_st0 f tn x) (dg, 0)).2.2))])), (am 2, .inl (cB, 16384, .inl f)), (am 9, .inl (cI, 80, .inl (tt_nf ((tm_nl f tn y (tm_st0 f tn x) (dg, 0)).2.1))))] H := by rw [o_dn2, o_dg2]; exact hP9
            have hD9 : va_D A [(am 0, .inr (6, [.int ft, .ref (am 1), .int (nI cn), .ref (am 2), .int (nI tn), .ref (am 3), .ref (am 4), .ref (am 5), .ref (am 6), .ref (am 7), .ref (am 8), .int (nI mc), .int pl, .int tk, .int (nI fr), .int (nI tj), .ref (am 9), .int (nI ((tm_nl f tn y (tm_st0 f tn x) (dg, 0)).2.2))])), (am 2, .inl (cB, 16384, .inl f)), (am 9, .inl (cI, 80, .inl (tt_nf ((tm_nl f tn y (tm_st0 f tn x) (dg, 0)).2.1))))] := by rw [o_dn2, o_dg2]; exact hD9
            exact W.zret (ty := .boolean) (v := 0) hx hb hr (tt_nz o_r) (fun t ht hW => ⟨⟨_, (), rfl, o_r, by rw [ht]; exact hP9, hD9⟩, hS.F ht⟩) hS.2.2 d_MO_isNumber_150
          · have c_142 : ¬ 1024 < (tm_bits E d) := fun z9 => c_142 ((nI_ltI (a := 1024) (b := (tm_bits E d)) (by omega) (by omega)).mpr z9)
            have c_142 := Nat.not_lt.mp c_142
            refine lv_iconst (v := 1) hx hb d_MO_isNumber_145 (by decide) ?_
            refine lv_goto (tgt := 150) hx hb d_MO_isNumber_146 (by decide) ?_
            have o_r : (1 : Int32) = (tt_b ((tm_nl f tn y (tm_st0 f tn x) (dg, 0)).1 && decide (tm_bits (tm_nl f tn y (tm_st0 f tn x) (dg, 0)).2.1 (tm_nl f tn y (tm_st0 f tn x) (dg, 0)).2.2 ≤ 1024))) := by rw [← he, tm_nl, dif_neg (by omega)]; simp [tt_b, c_13, c_26, Nat.not_lt.mpr c_26, c_142, Nat.not_lt.mpr c_142] <;> (intros; omega)
            have o_dn2 : ((tm_nl f tn y (tm_st0 f tn x) (dg, 0)).2.2 : Nat) = d := by rw [← he, tm_nl, dif_neg (by omega)]
            have o_dg2 : ((tm_nl f tn y (tm_st0 f tn x) (dg, 0)).2.1) = E := by rw [← he, tm_nl, dif_neg (by omega)]
            have hP9 : va_P D vwCl [(am 0, .inr (6, [.int ft, .ref (am 1), .int (nI cn), .ref (am 2), .int (nI tn), .ref (am 3), .ref (am 4), .ref (am 5), .ref (am 6), .ref (am 7), .ref (am 8), .int (nI mc), .int pl, .int tk, .int (nI fr), .int (nI tj), .ref (am 9), .int (nI d)])), (am 2, .inl (cB, 16384, .inl f)), (am 9, .inl (cI, 80, .inl (tt_nf E)))] H := hP.sub [0, 1, 2] rfl
            have hD9 : va_D A [(am 0, .inr (6, [.int ft, .ref (am 1), .int (nI cn), .ref (am 2), .int (nI tn), .ref (am 3), .ref (am 4), .ref (am 5), .ref (am 6), .ref (am 7), .ref (am 8), .int (nI mc), .int pl, .int tk, .int (nI fr), .int (nI tj), .ref (am 9), .int (nI d)])), (am 2, .inl (cB, 16384, .inl f)), (am 9, .inl (cI, 80, .inl (tt_nf E)))] := hD.sub [0, 1, 2] (by decide) rfl
            have hP9 : va_P D vwCl [(am 0, .inr (6, [.int ft, .ref (am 1), .int (nI cn), .ref (am 2), .int (nI tn), .ref (am 3), .ref (am 4), .ref (am 5), .ref (am 6), .ref (am 7), .ref (am 8), .int (nI mc), .int pl, .int tk, .int (nI fr), .int (nI tj), .ref (am 9), .int (nI ((tm_nl f tn y (tm_st0 f tn x) (dg, 0)).2.2))])), (am 2, .inl (cB, 16384, .inl f)), (am 9, .inl (cI, 80, .inl (tt_nf ((tm_nl f tn y (tm_st0 f tn x) (dg, 0)).2.1))))] H := by rw [o_dn2, o_dg2]; exact hP9
            have hD9 : va_D A [(am 0, .inr (6, [.int ft, .ref (am 1), .int (nI cn), .ref (am 2), .int (nI tn), .ref (am 3), .ref (am 4), .ref (am 5), .ref (am 6), .ref (am 7), .ref (am 8), .int (nI mc), .int pl, .int tk, .int (nI fr), .int (nI tj), .ref (am 9), .int (nI ((tm_nl f tn y (tm_st0 f tn x) (dg, 0)).2.2))])), (am 2, .inl (cB, 16384, .inl f)), (am 9, .inl (cI, 80, .inl (tt_nf ((tm_nl f tn y (tm_st0 f tn x) (dg, 0)).2.1))))] := by rw [o_dn2, o_dg2]; exact hD9
            exact W.zret (ty := .boolean) (v := 1) hx hb hr (tt_nz o_r) (fun t ht hW => ⟨⟨_, (), rfl, o_r, by rw [ht]; exact hP9, hD9⟩, hS.F ht⟩) hS.2.2 d_MO_isNumber_150
        · have c_26 : ¬ y ≤ j := fun z9 => c_26 ((nI_leI (a := y) (b := j) (by omega) (by omega)).mpr z9)
          have c_26 := Nat.not_le.mp c_26
          have hdv := tm_dv_ok hf (hdd j hj.1 c_26)
          refine lv_aload_n hx hb d_MO_isNumber_29 rfl (lv_at hl 0 rfl) ?_
          refine va_get (D := D) (ci := 6) (v := .ref (am 2)) (C := R_MO) (T := F_MO) (N := 18) hx hb htT i_MO hown hK hP 0 rfl rfl 3 (by decide) (htT _ k_638) (fun _ h9 => h9) rfl d_MO_isNumber_30 ?_
          refine lv_iload_n hx hb d_MO_isNumber_33 rfl (lv_at hl 2 rfl) ?_
          refine va_bald (D := D) hx hb hK hP 1 1 rfl rfl (vp_in_nI (by omega) (by omega)) d_MO_isNumber_34 ?_
          refine tt_ti (show f (nI j).toNatClampNeg = f j from by rw [nI_clamp (by omega)]) ?_
          refine lv_bipush (v := 48) hx hb d_MO_isNumber_35 (by decide) ?_
          refine lv_isub hx hb d_MO_isNumber_37 ?_
          refine tt_ti (show (f j) - 48 = nI (tm_dv f tn j) from hdv.1) ?_
          refine lv_istore (lv' := [(4, .int (nI (tm_dv f tn j))), (0, .ref (am 0)), (2, .int (nI y)), (3, .int (nI j))]) hx hb d_MO_isNumber_38 hl (by decide) rfl (fun ls hl => ?_)
          refine lv_iconst (v := 0) hx hb d_MO_isNumber_40 (by decide) ?_
          refine lv_istore (lv' := [(5, .int 0), (4, .int (nI (tm_dv f tn j))), (0, .ref (am 0)), (2, .int (nI y)), (3, .int (nI j))]) hx hb d_MO_isNumber_41 hl (by decide) rfl (fun ls hl => ?_)
          have hl : lv_has ls 7 [(5, .int 0), (4, .int (nI (tm_mc E (tm_dv f tn j) 0))), (0, .ref (am 0)), (2, .int (nI y)), (3, .int (nI j))] := hl
          have hP : va_P D vwCl [(am 0, .inr (6, [.int ft, .ref (am 1), .int (nI cn), .ref (am 2), .int (nI tn), .ref (am 3), .ref (am 4), .ref (am 5), .ref (am 6), .ref (am 7), .ref (am 8), .int (nI mc), .int pl, .int tk, .int (nI fr), .int (nI tj), .ref (am 9), .int (nI d)])), (am 2, .inl (cB, 16384, .inl f)), (am 9, .inl (cI, 80, .inl (tt_nf (tm_in E (tm_dv f tn j) 0))))] H := by rw [tm_in_0]; exact hP
          have hD : va_D A [(am 0, .inr (6, [.int ft, .ref (am 1), .int (nI cn), .ref (am 2), .int (nI tn), .ref (am 3), .ref (am 4), .ref (am 5), .ref (am 6), .ref (am 7), .ref (am 8), .int (nI mc), .int pl, .int tk, .int (nI fr), .int (nI tj), .ref (am 9), .int (nI d)])), (am 2, .inl (cB, 16384, .inl f)), (am 9, .inl (cI, 80, .inl (tt_nf (tm_in E (tm_dv f tn j) 0))))] := by rw [tm_in_0]; exact hD
          have cut_43 : ∀ (k9 : Nat) (q : Nat) (_ : d - q < k9) (hq : q ≤ d) (hmc : tm_mc E (tm_dv f tn j) q ≤ 9) (H : Heap) (locs : List Loc), va_P D vwCl [(am 0, .inr (6, [.int ft, .ref (am 1), .int (nI cn), .ref (am 2), .int (nI tn), .ref (am 3), .ref (am 4), .ref (am 5), .ref (am 6), .ref (am 7), .ref (am 8), .int (nI mc), .int pl, .int tk, .int (nI fr), .int (nI tj), .ref (am 9), .int (nI d)])), (am 2, .inl (cB, 16384, .inl f)), (am 9, .inl (cI, 80, .inl (tt_nf (tm_in E (tm_dv f tn j) q))))] H → va_D A [(am 0, .inr (6, [.int ft, .ref (am 1), .int (nI cn), .ref (am 2), .int (nI tn), .ref (am 3), .ref (am 4), .ref (am 5), .ref (am 6), .ref (am 7), .ref (am 8), .int (nI mc), .int pl, .int tk, .int (nI fr), .int (nI tj), .ref (am 9), .int (nI d)])), (am 2, .inl (cB, 16384, .inl f)), (am 9, .inl (cI, 80, .inl (tt_nf (tm_in E (tm_dv f tn j) q))))] → va_S A s.heap H locs → ∀ ls : Array Slot, lv_has ls 7 [(0, .ref (am 0)), (2, .int (nI y)), (3, .int (nI j)), (5, .int (nI q)), (4, .int (nI (tm_mc E (tm_dv f tn j) q)))] → W p l e (headSpec w_MO_isNumber rm_MO_isNumber).room s m ([.ref (am 0), .int (nI x), .int (nI y)] : List Value).toArray below meth c H locs 0 0 (MQ below (q_MO_isNumber D cI cB cL am ft cn tn mc pl tk fr tj dn f dg x y A) ([.ref (am 0), .int (nI x), .int (nI y)] : List Value).toArray s 0 0 A) (F0 m 43 ls []) := by
            intro k9
            induction k9 with
            | zero => intro q h9; exact absurd h9 (Nat.not_lt_zero _)
            | succ k9 ih_43 =>
              intro q h9 hq hmc H locs hP hD hS ls hl
              refine lv_iload hx hb d_MO_isNumber_43 (lv_at hl 3 rfl) ?_
              refine lv_aload_n hx hb d_MO_isNumber_45 rfl (lv_at hl 0 rfl) ?_
              refine va_get (D := D) (ci := 6) (v := .int (nI d)) (C := R_MO) (T := F_MO) (N := 18) hx hb htT i_MO hown hK hP 0 rfl rfl 17 (by decide) (htT _ k_652) (fun _ h9 => h9) rfl d_MO_isNumber_46 ?_
              refine lv_icmp_ge (tgt := 92) hx hb d_MO_isNumber_49 (by decide) (fun c_49 => ?_) (fun c_49 => ?_)
              · have c_49 : d ≤ q := (nI_leI (a := d) (b := q) (by omega) (by omega)).mp c_49
                have hqd : q = d := by omega
                rw [hqd] at hmc
                rw [hqd] at hl hP hD
                have hl : lv_has ls 7 [(0, .ref (am 0)), (2, .int (nI y)), (3, .int (nI j)), (5, .int (nI d)), (4, .int (nI (tm_mc E (tm_dv f tn j) d)))] := hl
                have hP : va_P D vwCl [(am 0, .inr (6, [.int ft, .ref (am 1), .int (nI cn), .ref (am 2), .int (nI tn), .ref (am 3), .ref (am 4), .ref (am 5), .ref (am 6), .ref (am 7), .ref (am 8), .int (nI mc), .int pl, .int tk, .int (nI fr), .int (nI tj), .ref (am 9), .int (nI d)])), (am 2, .inl (cB, 16384, .inl f)), (am 9, .inl (cI, 80, .inl (tt_nf (tm_in E (tm_dv f tn j) d))))] H := hP
                have hD : va_D A [(am 0, .inr (6, [.int ft, .ref (am 1), .int (nI cn), .ref (am 2), .int (nI tn), .ref (am 3), .ref (am 4), .ref (am 5), .ref (am 6), .ref (am 7), .ref (am 8), .int (nI mc), .int pl, .int tk, .int (nI fr), .int (nI tj), .ref (am 9), .int (nI d)])), (am 2, .inl (cB, 16384, .inl f)), (am 9, .inl (cI, 80, .inl (tt_nf (tm_in E (tm_dv f tn j) d))))] := hD
                refine lv_iload hx hb d_MO_isNumber_92 (lv_at hl 4 rfl) ?_
                refine lv_if_le (tgt := 118) hx hb d_MO_isNumber_94 (by decide) (fun c_94 => ?_) (fun c_94 => ?_)
                · have c_94 : (tm_mc E (tm_dv f tn j) d) ≤ 0 := (nI_leI (a := (tm_mc E (tm_dv f tn j) d)) (b := 0) (by omega) (by omega)).mp c_94
                  have hstep : tm_step (E, d) (tm_dv f tn j) = (tm_in E (tm_dv f tn j) d, d) := by simp [tm_step, Nat.le_zero.mp c_94]
                  refine lv_aload_n hx hb d_MO_isNumber_118 rfl (lv_at hl 0 rfl) ?_
                  refine va_get (D := D) (ci := 6) (v := .int (nI d)) (C := R_MO) (T := F_MO) (N := 18) hx hb htT i_MO hown hK hP 0 rfl rfl 17 (by decide) (htT _ k_652) (fun _ h9 => h9) rfl d_MO_isNumber_119 ?_
                  refine lv_bipush (v := 66) hx hb d_MO_isNumber_122 (by decide) ?_
                  refine lv_icmp_le (tgt := 129) hx hb d_MO_isNumber_124 (by decide) (fun c_124 => ?_) (fun c_124 => ?_)
                  · have c_124 : d ≤ 66 := (nI_leI (a := d) (b := 66) (by omega) (by omega)).mp c_124
                    refine lv_iinc (v := nI (j + 1)) (lv' := [(3, .int (nI (j + 1))), (0, .ref (am 0)), (2, .int (nI y)), (5, .int (nI d)), (4, .int (nI (tm_mc E (tm_dv f tn j) d)))]) hx hb d_MO_isNumber_129 hl (k := 2) rfl (nI_add j 1) (by decide) rfl (fun ls hl => ?_)
                    refine lv_goto (tgt := 24) hx hb d_MO_isNumber_132 (by decide) ?_
                    exact ih_24 (j + 1) (tm_in E (tm_dv f tn j) d) d (by omega) (by omega) (by omega) (by have h7 := tm_step_ok hE hdv.2; rw [hstep] at h7; exact h7) (by rw [tm_nl, dif_pos c_26, hstep, if_neg (by dsimp only; omega)] at he; exact he) _ _ (hP.sub (ws' := [(am 0, .inr (6, [.int ft, .ref (am 1), .int (nI cn), .ref (am 2), .int (nI tn), .ref (am 3), .ref (am 4), .ref (am 5), .ref (am 6), .ref (am 7), .ref (am 8), .int (nI mc), .int pl, .int tk, .int (nI fr), .int (nI tj), .ref (am 9), .int (nI d)])), (am 2, .inl (cB, 16384, .inl f)), (am 9, .inl (cI, 80, .inl (tt_nf (tm_in E (tm_dv f tn j) d))))]) [0, 1, 2] rfl) (hD.sub (ws' := [(am 0, .inr (6, [.int ft, .ref (am 1), .int (nI cn), .ref (am 2), .int (nI tn), .ref (am 3), .ref (am 4), .ref (am 5), .ref (am 6), .ref (am 7), .ref (am 8), .int (nI mc), .int pl, .int tk, .int (nI fr), .int (nI tj), .ref (am 9), .int (nI d)])), (am 2, .inl (cB, 16384, .inl f)), (am 9, .inl (cI, 80, .inl (tt_nf (tm_in E (tm_dv f tn j) d))))]) [0, 1, 2] (by decide) rfl) hS ls (lv_sub hl [1, 2, 0] rfl)
                  · have c_124 : ¬ d ≤ 66 := fun z9 => c_124 ((nI_leI (a := d) (b := 66) (by omega) (by omega)).mpr z9)
                    have c_124 := Nat.not_le.mp c_124
                    refine lv_iconst (v := 0) hx hb d_MO_isNumber_127 (by decide) ?_
                    have o_r : (0 : Int32) = (tt_b ((tm_nl f tn y (tm_st0 f tn x) (dg, 0)).1 && decide (tm_bits (tm_nl f tn y (tm_st0 f tn x) (dg, 0)).2.1 (tm_nl f tn y (tm_st0 f tn x) (dg, 0)).2.2 ≤ 1024))) := by rw [← he, tm_nl, dif_pos c_26, hstep, if_pos (by dsimp only; omega)]; rfl
                    have o_dn2 : ((tm_nl f tn y (tm_st0 f tn x) (dg, 0)).2.2 : Nat) = d := by rw [← he, tm_nl, dif_pos c_26, hstep, if_pos (by dsimp only; omega)]
                    have o_dg2 : ((tm_nl f tn y (tm_st0 f tn x) (dg, 0)).2.1) = (tm_in E (tm_dv f tn j) d) := by rw [← he, tm_nl, dif_pos c_26, hstep, if_pos (by dsimp only; omega)]
                    have hP9 : va_P D vwCl [(am 0, .inr (6, [.int ft, .ref (am 1), .int (nI cn), .ref (am 2), .int (nI tn), .ref (am 3), .ref (am 4), .ref (am 5), .ref (am 6), .ref (am 7), .ref (am 8), .int (nI mc), .int pl, .int tk, .int (nI fr), .int (nI tj), .ref (am 9), .int (nI d)])), (am 2, .inl (cB, 16384, .inl f)), (am 9, .inl (cI, 80, .inl (tt_nf (tm_in E (tm_dv f tn j) d))))] H := hP.sub [0, 1, 2] rfl
                    have hD9 : va_D A [(am 0, .inr (6, [.int ft, .ref (am 1), .int (nI cn), .ref (am 2), .int (nI tn), .ref (am 3), .ref (am 4), .ref (am 5), .ref (am 6), .ref (am 7), .ref (am 8), .int (nI mc), .int pl, .int tk, .int (nI fr), .int (nI tj), .ref (am 9), .int (nI d)])), (am 2, .inl (cB, 16384, .inl f)), (am 9, .inl (cI, 80, .inl (tt_nf (tm_in E (tm_dv f tn j) d))))] := hD.sub [0, 1, 2] (by decide) rfl
                    have hP9 : va_P D vwCl [(am 0, .inr (6, [.int ft, .ref (am 1), .int (nI cn), .ref (am 2), .int (nI tn), .ref (am 3), .ref (am 4), .ref (am 5), .ref (am 6), .ref (am 7), .ref (am 8), .int (nI mc), .int pl, .int tk, .int (nI fr), .int (nI tj), .ref (am 9), .int (nI ((tm_nl f tn y (tm_st0 f tn x) (dg, 0)).2.2))])), (am 2, .inl (cB, 16384, .inl f)), (am 9, .inl (cI, 80, .inl (tt_nf ((tm_nl f tn y (tm_st0 f tn x) (dg, 0)).2.1))))] H := by rw [o_dn2, o_dg2]; exact hP9
                    have hD9 : va_D A [(am 0, .inr (6, [.int ft, .ref (am 1), .int (nI cn), .ref (am 2), .int (nI tn), .ref (am 3), .ref (am 4), .ref (am 5), .ref (am 6), .ref (am 7), .ref (am 8), .int (nI mc), .int pl, .int tk, .int (nI fr), .int (nI tj), .ref (am 9), .int (nI ((tm_nl f tn y (tm_st0 f tn x) (dg, 0)).2.2))])), (am 2, .inl (cB, 16384, .inl f)), (am 9, .inl (cI, 80, .inl (tt_nf ((tm_nl f tn y (tm_st0 f tn x) (dg, 0)).2.1))))] := by rw [o_dn2, o_dg2]; exact hD9
                    exact W.zret (ty := .boolean) (v := 0) hx hb hr (tt_nz o_r) (fun t ht hW => ⟨⟨_, (), rfl, o_r, by rw [ht]; exact hP9, hD9⟩, hS.F ht⟩) hS.2.2 d_MO_isNumber_128
                · have c_94 : ¬ (tm_mc E (tm_dv f tn j) d) ≤ 0 := fun z9 => c_94 ((nI_leI (a := (tm_mc E (tm_dv f tn j) d)) (b := 0) (by omega) (by omega)).mpr z9)
                  have c_94 := Nat.not_le.mp c_94
                  have hstep : tm_step (E, d) (tm_dv f tn j) = (tm_put (tm_in E (tm_dv f tn j) d) d (tm_mc E (tm_dv f tn j) d), d + 1) := by simp [tm_step, show ¬ tm_mc E (tm_dv f tn j) d = 0 by omega]
                  refine lv_aload_n hx hb d_MO_isNumber_97 rfl (lv_at hl 0 rfl) ?_
                  refine va_get (D := D) (ci := 6) (v := .ref (am 9)) (C := R_MO) (T := F_MO) (N := 18) hx hb htT i_MO hown hK hP 0 rfl rfl 16 (by decide) (htT _ k_651) (fun _ h9 => h9) rfl d_MO_isNumber_98 ?_
                  refine lv_aload_n hx hb d_MO_isNumber_101 rfl (lv_at hl 0 rfl) ?_
                  refine va_get (D := D) (ci := 6) (v := .int (nI d)) (C := R_MO) (T := F_MO) (N := 18) hx hb htT i_MO hown hK hP 0 rfl rfl 17 (by decide) (htT _ k_652) (fun _ h9 => h9) rfl d_MO_isNumber_102 ?_
                  refine lv_iload hx hb d_MO_isNumber_105 (lv_at hl 4 rfl) ?_
                  refine va_iast (D := D) hx hb hK hP hD hS 2 0 rfl rfl (vp_in_nI (by omega) (by omega)) d_MO_isNumber_107 (fun H locs hP hD hS => ?_)
                  rw [nI_clamp (show d < 2 ^ 31 by omega)] at hP hD
                  have hP : va_P D vwCl [(am 0, .inr (6, [.int ft, .ref (am 1), .int (nI cn), .ref (am 2), .int (nI tn), .ref (am 3), .ref (am 4), .ref (am 5), .ref (am 6), .ref (am 7), .ref (am 8), .int (nI mc), .int pl, .int tk, .int (nI fr), .int (nI tj), .ref (am 9), .int (nI d)])), (am 2, .inl (cB, 16384, .inl f)), (am 9, .inl (cI, 80, .inl (upd (tt_nf (tm_in E (tm_dv f tn j) d)) d (nI (tm_mc E (tm_dv f tn j) d)))))] H := hP
                  have hD : va_D A [(am 0, .inr (6, [.int ft, .ref (am 1), .int (nI cn), .ref (am 2), .int (nI tn), .ref (am 3), .ref (am 4), .ref (am 5), .ref (am 6), .ref (am 7), .ref (am 8), .int (nI mc), .int pl, .int tk, .int (nI fr), .int (nI tj), .ref (am 9), .int (nI d)])), (am 2, .inl (cB, 16384, .inl f)), (am 9, .inl (cI, 80, .inl (upd (tt_nf (tm_in E (tm_dv f tn j) d)) d (nI (tm_mc E (tm_dv f tn j) d)))))] := hD
                  rw [tt_updN] at hP hD
                  have hP : va_P D vwCl [(am 0, .inr (6, [.int ft, .ref (am 1), .int (nI cn), .ref (am 2), .int (nI tn), .ref (am 3), .ref (am 4), .ref (am 5), .ref (am 6), .ref (am 7), .ref (am 8), .int (nI mc), .int pl, .int tk, .int (nI fr), .int (nI tj), .ref (am 9), .int (nI d)])), (am 2, .inl (cB, 16384, .inl f)), (am 9, .inl (cI, 80, .inl (tt_nf (tm_put (tm_in E (tm_dv f tn j) d) d (tm_mc E (tm_dv f tn j) d)))))] H := hP
                  have hD : va_D A [(am 0, .inr (6, [.int ft, .ref (am 1), .int (nI cn), .ref (am 2), .int (nI tn), .ref (am 3), .ref (am 4), .ref (am 5), .ref (am 6), .ref (am 7), .ref (am 8), .int (nI mc), .int pl, .int tk, .int (nI fr), .int (nI tj), .ref (am 9), .int (nI d)])), (am 2, .inl (cB, 16384, .inl f)), (am 9, .inl (cI, 80, .inl (tt_nf (tm_put (tm_in E (tm_dv f tn j) d) d (tm_mc E (tm_dv f tn j) d)))))] := hD
                  refine lv_aload_n hx hb d_MO_isNumber_108 rfl (lv_at hl 0 rfl) ?_
                  refine lv_dup hx hb d_MO_isNumber_109 rfl ?_
                  refine va_get (D := D) (ci := 6) (v := .int (nI d)) (C := R_MO) (T := F_MO) (N := 18) hx hb htT i_MO hown hK hP 0 rfl rfl 17 (by decide) (htT _ k_652) (fun _ h9 => h9) rfl d_MO_isNumber_110 ?_
                  refine lv_iconst (v := 1) hx hb d_MO_isNumber_113 (by decide) ?_
                  refine lv_iadd hx hb d_MO_isNumber_114 ?_
                  refine tt_ti (show (nI d) + 1 = nI (d + 1) from nI_add d 1) ?_
                  refine va_put (D := D) (ci := 6) (v := .int (nI (d + 1))) (ty := .int) (C := R_MO) (T := F_MO) (N := 18) hx hb htT i_MO t_MO t_MO_ok n_MO hown hK hP hD hS 0 rfl rfl 17 (by decide) (htT _ k_652) (fun _ h9 => h9) rfl (by decide +kernel) rfl rfl (Nat.le_of_ble_eq_true rfl) d_MO_isNumber_115 (fun H locs hP hD hS => ?_)
                  have hP : va_P D vwCl [(am 0, .inr (6, [.int ft, .ref (am 1), .int (nI cn), .ref (am 2), .int (nI tn), .ref (am 3), .ref (am 4), .ref (am 5), .ref (am 6), .ref (am 7), .ref (am 8), .int (nI mc), .int pl, .int tk, .int (nI fr), .int (nI tj), .ref (am 9), .int (nI (d + 1))])), (am 2, .inl (cB, 16384, .inl f)), (am 9, .inl (cI, 80, .inl (tt_nf (tm_put (tm_in E (tm_dv f tn j) d) d (tm_mc E (tm_dv f tn j) d)))))] H := hP
                  have hD : va_D A [(am 0, .inr (6, [.int ft, .ref (am 1), .int (nI cn), .ref (am 2), .int (nI tn), .ref (am 3), .ref (am 4), .ref (am 5), .ref (am 6), .ref (am 7), .ref (am 8), .int (nI mc), .int pl, .int tk, .int (nI fr), .int (nI tj), .ref (am 9), .int (nI (d + 1))])), (am 2, .inl (cB, 16384, .inl f)), (am 9, .inl (cI, 80, .inl (tt_nf (tm_put (tm_in E (tm_dv f tn j) d) d (tm_mc E (tm_dv f tn j) d)))))] := hD
                  refine lv_aload_n hx hb d_MO_isNumber_118 rfl (lv_at hl 0 rfl) ?_
                  refine va_get (D := D) (ci := 6) (v := .int (nI (d + 1))) (C := R_MO) (T := F_MO) (N := 18) hx hb htT i_MO hown hK hP 0 rfl rfl 17 (by decide) (htT _ k_652) (fun _ h9 => h9) rfl d_MO_isNumber_119 ?_
                  refine lv_bipush (v := 66) hx hb d_MO_isNumber_122 (by decide) ?_
                  refine lv_icmp_le (tgt := 129) hx hb d_MO_isNumber_124 (by decide) (fun c_124 => ?_) (fun c_124 => ?_)
                  · have c_124 : (d + 1) ≤ 66 := (nI_leI (a := (d + 1)) (b := 66) (by omega) (by omega)).mp c_124
                    refine lv_iinc (v := nI (j + 1)) (lv' := [(3, .int (nI (j + 1))), (0, .ref (am 0)), (2, .int (nI y)), (5, .int (nI d)), (4, .int (nI (tm_mc E (tm_dv f tn j) d)))]) hx hb d_MO_isNumber_129 hl (k := 2) rfl (nI_add j 1) (by decide) rfl (fun ls hl => ?_)
                    refine lv_goto (tgt := 24) hx hb d_MO_isNumber_132 (by decide) ?_
                    exact ih_24 (j + 1) (tm_put (tm_in E (tm_dv f tn j) d) d (tm_mc E (tm_dv f tn j) d)) (d + 1) (by omega) (by omega) (by omega) (by have h7 := tm_step_ok hE hdv.2; rw [hstep] at h7; exact h7) (by rw [tm_nl, dif_pos c_26, hstep, if_neg (by dsimp only; omega)] at he; exact he) _ _ (hP.sub (ws' := [(am 0, .inr (6, [.int ft, .ref (am 1), .int (nI cn), .ref (am 2), .int (nI tn), .ref (am 3), .ref (am 4), .ref (am 5), .ref (am 6), .ref (am 7), .ref (am 8), .int (nI mc), .int pl, .int tk, .int (nI fr), .int (nI tj), .ref (am 9), .int (nI (d + 1))])), (am 2, .inl (cB, 16384, .inl f)), (am 9, .inl (cI, 80, .inl (tt_nf (tm_put (tm_in E (tm_dv f tn j) d) d (tm_mc E (tm_dv f tn j) d)))))]) [0, 1, 2] rfl) (hD.sub (ws' := [(am 0, .inr (6, [.int ft, .ref (am 1), .int (nI cn), .ref (am 2), .int (nI tn), .ref (am 3), .ref (am 4), .ref (am 5), .ref (am 6), .ref (am 7), .ref (am 8), .int (nI mc), .int pl, .int tk, .int (nI fr), .int (nI tj), .ref (am 9), .int (nI (d + 1))])), (am 2, .inl (cB, 16384, .inl f)), (am 9, .inl (cI, 80, .inl (tt_nf (tm_put (tm_in E (tm_dv f tn j) d) d (tm_mc E (tm_dv f tn j) d)))))]) [0, 1, 2] (by decide) rfl) hS ls (lv_sub hl [1, 2, 0] rfl)
                  · have c_124 : ¬ (d + 1) ≤ 66 := fun z9 => c_124 ((nI_leI (a := (d + 1)) (b := 66) (by omega) (by omega)).mpr z9)
                    have c_124 := Nat.not_le.mp c_124
                    refine lv_iconst (v := 0) hx hb d_MO_isNumber_127 (by decide) ?_
                    have o_r : (0 : Int32) = (tt_b ((tm_nl f tn y (tm_st0 f tn x) (dg, 0)).1 && decide (tm_bits (tm_nl f tn y (tm_st0 f tn x) (dg, 0)).2.1 (tm_nl f tn y (tm_st0 f tn x) (dg, 0)).2.2 ≤ 1024))) := by rw [← he, tm_nl, dif_pos c_26, hstep, if_pos (by dsimp only; omega)]; rfl
                    have o_dn2 : ((tm_nl f tn y (tm_st0 f tn x) (dg, 0)).2.2 : Nat) = (d + 1) := by rw [← he, tm_nl, dif_pos c_26, hstep, if_pos (by dsimp only; omega)]
                    have o_dg2 : ((tm_nl f tn y (tm_st0 f tn x) (dg, 0)).2.1) = (tm_put (tm_in E (tm_dv f tn j) d) d (tm_mc E (tm_dv f tn j) d)) := by rw [← he, tm_nl, dif_pos c_26, hstep, if_pos (by dsimp only; omega)]
                    have hP9 : va_P D vwCl [(am 0, .inr (6, [.int ft, .ref (am 1), .int (nI cn), .ref (am 2), .int (nI tn), .ref (am 3), .ref (am 4), .ref (am 5), .ref (am 6), .ref (am 7), .ref (am 8), .int (nI mc), .int pl, .int tk, .int (nI fr), .int (nI tj), .ref (am 9), .int (nI (d + 1))])), (am 2, .inl (cB, 16384, .inl f)), (am 9, .inl (cI, 80, .inl (tt_nf (tm_put (tm_in E (tm_dv f tn j) d) d (tm_mc E (tm_dv f tn j) d)))))] H := hP.sub [0, 1, 2] rfl
                    have hD9 : va_D A [(am 0, .inr (6, [.int ft, .ref (am 1), .int (nI cn), .ref (am 2), .int (nI tn), .ref (am 3), .ref (am 4), .ref (am 5), .ref (am 6), .ref (am 7), .ref (am 8), .int (nI mc), .int pl, .int tk, .int (nI fr), .int (nI tj), .ref (am 9), .int (nI (d + 1))])), (am 2, .inl (cB, 16384, .inl f)), (am 9, .inl (cI, 80, .inl (tt_nf (tm_put (tm_in E (tm_dv f tn j) d) d (tm_mc E (tm_dv f tn j) d)))))] := hD.sub [0, 1, 2] (by decide) rfl
                    have hP9 : va_P D vwCl [(am 0, .inr (6, [.int ft, .ref (am 1), .int (nI cn), .ref (am 2), .int (nI tn), .ref (am 3), .ref (am 4), .ref (am 5), .ref (am 6), .ref (am 7), .ref (am 8), .int (nI mc), .int pl, .int tk, .int (nI fr), .int (nI tj), .ref (am 9), .int (nI ((tm_nl f tn y (tm_st0 f tn x) (dg, 0)).2.2))])), (am 2, .inl (cB, 16384, .inl f)), (am 9, .inl (cI, 80, .inl (tt_nf ((tm_nl f tn y (tm_st0 f tn x) (dg, 0)).2.1))))] H := by rw [o_dn2, o_dg2]; exact hP9
                    have hD9 : va_D A [(am 0, .inr (6, [.int ft, .ref (am 1), .int (nI cn), .ref (am 2), .int (nI tn), .ref (am 3), .ref (am 4), .ref (am 5), .ref (am 6), .ref (am 7), .ref (am 8), .int (nI mc), .int pl, .int tk, .int (nI fr), .int (nI tj), .ref (am 9), .int (nI ((tm_nl f tn y (tm_st0 f tn x) (dg, 0)).2.2))])), (am 2, .inl (cB, 16384, .inl f)), (am 9, .inl (cI, 80, .inl (tt_nf ((tm_nl f tn y (tm_st0 f tn x) (dg, 0)).2.1))))] := by rw [o_dn2, o_dg2]; exact hD9
                    exact W.zret (ty := .boolean) (v := 0) hx hb hr (tt_nz o_r) (fun t ht hW => ⟨⟨_, (), rfl, o_r, by rw [ht]; exact hP9, hD9⟩, hS.F ht⟩) hS.2.2 d_MO_isNumber_128
              · have c_49 : ¬ d ≤ q := fun z9 => c_49 ((nI_leI (a := d) (b := q) (by omega) (by omega)).mpr z9)
                have c_49 := Nat.not_le.mp c_49
                have hEq := hE q c_49
                refine lv_bipush (v := 10) hx hb d_MO_isNumber_52 (by decide) ?_
                refine lv_aload_n hx hb d_MO_isNumber_54 rfl (lv_at hl 0 rfl) ?_
                refine va_get (D := D) (ci := 6) (v := .ref (am 9)) (C := R_MO) (T := F_MO) (N := 18) hx hb htT i_MO hown hK hP 0 rfl rfl 16 (by decide) (htT _ k_651) (fun _ h9 => h9) rfl d_MO_isNumber_55 ?_
                refine lv_iload hx hb d_MO_isNumber_58 (lv_at hl 3 rfl) ?_
                refine va_iald (D := D) hx hb hK hP 2 0 rfl rfl (vp_in_nI (by omega) (by omega)) d_MO_isNumber_60 ?_
                refine tt_ti (show (tt_nf (tm_in E (tm_dv f tn j) q)) (nI q).toNatClampNeg = (tt_nf (tm_in E (tm_dv f tn j) q)) q from by rw [nI_clamp (by omega)]) ?_
                refine tt_ti (show (tt_nf (tm_in E (tm_dv f tn j) q)) q = nI (E q) from show nI (tm_in E (tm_dv f tn j) q q) = nI (E q) from by rw [tm_in_at]) ?_
                refine lv_imul hx hb d_MO_isNumber_61 ?_
                refine tt_ti (show 10 * (nI (E q)) = nI (10 * (E q)) from pk_mul 10 (E q)) ?_
                refine lv_iload hx hb d_MO_isNumber_62 (lv_at hl 4 rfl) ?_
                refine lv_iadd hx hb d_MO_isNumber_64 ?_
                refine tt_ti (show (nI (10 * (E q))) + (nI (tm_mc E (tm_dv f tn j) q)) = nI ((10 * (E q)) + (tm_mc E (tm_dv f tn j) q)) from nI_add (10 * (E q)) (tm_mc E (tm_dv f tn j) q)) ?_
                refine lv_istore (lv' := [(6, .int (nI ((10 * (E q)) + (tm_mc E (tm_dv f tn j) q)))), (0, .ref (am 0)), (2, .int (nI y)), (3, .int (nI j)), (5, .int (nI q)), (4, .int (nI (tm_mc E (tm_dv f tn j) q)))]) hx hb d_MO_isNumber_65 hl (by decide) rfl (fun ls hl => ?_)
                refine lv_aload_n hx hb d_MO_isNumber_67 rfl (lv_at hl 1 rfl) ?_
                refine va_get (D := D) (ci := 6) (v := .ref (am 9)) (C := R_MO) (T := F_MO) (N := 18) hx hb htT i_MO hown hK hP 0 rfl rfl 16 (by decide) (htT _ k_651) (fun _ h9 => h9) rfl d_MO_isNumber_68 ?_
                refine lv_iload hx hb d_MO_isNumber_71 (lv_at hl 4 rfl) ?_
                refine lv_iload hx hb d_MO_isNumber_73 (lv_at hl 0 rfl) ?_
                refine lv_ldc (v := 65536) hx hb hown (htT _ k_767) d_MO_isNumber_75 ?_
                refine lv_irem hx hb d_MO_isNumber_77 (by decide) ?_
                refine tt_ti (show (nI ((10 * (E q)) + (tm_mc E (tm_dv f tn j) q))) - (nI ((10 * (E q)) + (tm_mc E (tm_dv f tn j) q))) / 65536 * 65536 = nI (((10 * (E q)) + (tm_mc E (tm_dv f tn j) q)) % 65536) from pk_rem (a := ((10 * (E q)) + (tm_mc E (tm_dv f tn j) q))) (d := 65536) (by omega) (by omega) (by omega)) ?_
                refine va_iast (D := D) hx hb hK hP hD hS 2 0 rfl rfl (vp_in_nI (by omega) (by omega)) d_MO_isNumber_78 (fun H locs hP hD hS => ?_)
                rw [nI_clamp (show q < 2 ^ 31 by omega)] at hP hD
                have hP : va_P D vwCl [(am 0, .inr (6, [.int ft, .ref (am 1), .int (nI cn), .ref (am 2), .int (nI tn), .ref (am 3), .ref (am 4), .ref (am 5), .ref (am 6), .ref (am 7), .ref (am 8), .int (nI mc), .int pl, .int tk, .int (nI fr), .int (nI tj), .ref (am 9), .int (nI d)])), (am 2, .inl (cB, 16384, .inl f)), (am 9, .inl (cI, 80, .inl (upd (tt_nf (tm_in E (tm_dv f tn j) q)) q (nI (((10 * (E q)) + (tm_mc E (tm_dv f tn j) q)) % 65536)))))] H := hP
                have hD : va_D A [(am 0, .inr (6, [.int ft, .ref (am 1), .int (nI cn), .ref (am 2), .int (nI tn), .ref (am 3), .ref (am 4), .ref (am 5), .ref (am 6), .ref (am 7), .ref (am 8), .int (nI mc), .int pl, .int tk, .int (nI fr), .int (nI tj), .ref (am 9), .int (nI d)])), (am 2, .inl (cB, 16384, .inl f)), (am 9, .inl (cI, 80, .inl (upd (tt_nf (tm_in E (tm_dv f tn j) q)) q (nI (((10 * (E q)) + (tm_mc E (tm_dv f tn j) q)) % 65536)))))] := hD
                rw [tt_updN, tm_in_s] at hP hD
                have hP : va_P D vwCl [(am 0, .inr (6, [.int ft, .ref (am 1), .int (nI cn), .ref (am 2), .int (nI tn), .ref (am 3), .ref (am 4), .ref (am 5), .ref (am 6), .ref (am 7), .ref (am 8), .int (nI mc), .int pl, .int tk, .int (nI fr), .int (nI tj), .ref (am 9), .int (nI d)])), (am 2, .inl (cB, 16384, .inl f)), (am 9, .inl (cI, 80, .inl (tt_nf (tm_in E (tm_dv f tn j) (q + 1)))))] H := hP
                have hD : va_D A [(am 0, .inr (6, [.int ft, .ref (am 1), .int (nI cn), .ref (am 2), .int (nI tn), .ref (am 3), .ref (am 4), .ref (am 5), .ref (am 6), .ref (am 7), .ref (am 8), .int (nI mc), .int pl, .int tk, .int (nI fr), .int (nI tj), .ref (am 9), .int (nI d)])), (am 2, .inl (cB, 16384, .inl f)), (am 9, .inl (cI, 80, .inl (tt_nf (tm_in E (tm_dv f tn j) (q + 1)))))] := hD
                refine lv_iload hx hb d_MO_isNumber_79 (lv_at hl 0 rfl) ?_
                refine lv_ldc (v := 65536) hx hb hown (htT _ k_767) d_MO_isNumber_81 ?_
                refine lv_idiv hx hb d_MO_isNumber_83 (by decide) ?_
                refine tt_ti (show (nI ((10 * (E q)) + (tm_mc E (tm_dv f tn j) q))) / 65536 = nI (tm_mc E (tm_dv f tn j) (q + 1)) from pk_div (a := 10 * E q + tm_mc E (tm_dv f tn j) q) (d := 65536) (by omega) (by omega) (by omega)) ?_
                refine lv_istore (lv' := [(4, .int (nI (tm_mc E (tm_dv f tn j) (q + 1)))), (6, .int (nI ((10 * (E q)) + (tm_mc E (tm_dv f tn j) q)))), (0, .ref (am 0)), (2, .int (nI y)), (3, .int (nI j)), (5, .int (nI q))]) hx hb d_MO_isNumber_84 hl (by decide) rfl (fun ls hl => ?_)
                refine lv_iinc (v := nI (q + 1)) (lv' := [(5, .int (nI (q + 1))), (4, .int (nI (tm_mc E (tm_dv f tn j) (q + 1)))), (6, .int (nI ((10 * (E q)) + (tm_mc E (tm_dv f tn j) q)))), (0, .ref (am 0)), (2, .int (nI y)), (3, .int (nI j))]) hx hb d_MO_isNumber_86 hl (k := 5) rfl (nI_add q 1) (by decide) rfl (fun ls hl => ?_)
                refine lv_goto (tgt := 43) hx hb d_MO_isNumber_89 (by decide) ?_
                exact ih_43 (q + 1) (by omega) (by omega) (by exact tm_mc_le hE hdv.2 (q + 1) (by omega)) _ _ (hP.sub (ws' := [(am 0, .inr (6, [.int ft, .ref (am 1), .int (nI cn), .ref (am 2), .int (nI tn), .ref (am 3), .ref (am 4), .ref (am 5), .ref (am 6), .ref (am 7), .ref (am 8), .int (nI mc), .int pl, .int tk, .int (nI fr), .int (nI tj), .ref (am 9), .int (nI d)])), (am 2, .inl (cB, 16384, .inl f)), (am 9, .inl (cI, 80, .inl (tt_nf (tm_in E (tm_dv f tn j) (q + 1)))))]) [0, 1, 2] rfl) (hD.sub (ws' := [(am 0, .inr (6, [.int ft, .ref (am 1), .int (nI cn), .ref (am 2), .int (nI tn), .ref (am 3), .ref (am 4), .ref (am 5), .ref (am 6), .ref (am 7), .ref (am 8), .int (nI mc), .int pl, .int tk, .int (nI fr), .int (nI tj), .ref (am 9), .int (nI d)])), (am 2, .inl (cB, 16384, .inl f)), (am 9, .inl (cI, 80, .inl (tt_nf (tm_in E (tm_dv f tn j) (q + 1)))))]) [0, 1, 2] (by decide) rfl) hS ls (lv_sub hl [3, 4, 5, 0, 1] rfl)
          exact cut_43 _ 0 (Nat.lt_succ_self _) (by omega) (by exact hdv.2) _ _ (hP.sub (ws' := [(am 0, .inr (6, [.int ft, .ref (am 1), .int (nI cn), .ref (am 2), .int (nI tn), .ref (am 3), .ref (am 4), .ref (am 5), .ref (am 6), .ref (am 7), .ref (am 8), .int (nI mc), .int pl, .int tk, .int (nI fr), .int (nI tj), .ref (am 9), .int (nI d)])), (am 2, .inl (cB, 16384, .inl f)), (am 9, .inl (cI, 80, .inl (tt_nf (tm_in E (tm_dv f tn j) 0))))]) [0, 1, 2] rfl) (hD.sub (ws' := [(am 0, .inr (6, [.int ft, .ref (am 1), .int (nI cn), .ref (am 2), .int (nI tn), .ref (am 3), .ref (am 4), .ref (am 5), .ref (am 6), .ref (am 7), .ref (am 8), .int (nI mc), .int pl, .int tk, .int (nI fr), .int (nI tj), .ref (am 9), .int (nI d)])), (am 2, .inl (cB, 16384, .inl f)), (am 9, .inl (cI, 80, .inl (tt_nf (tm_in E (tm_dv f tn j) 0))))]) [0, 1, 2] (by decide) rfl) hS ls (lv_sub hl [2, 3, 4, 0, 1] rfl)
    exact cut_24 _ x dg 0 (Nat.lt_succ_self _) (by simp [tm_st0, hs45]; omega) (by omega) (by intro k h; omega) (by simp [tm_st0, hs45]) _ _ (hP.sub (ws' := [(am 0, .inr (6, [.int ft, .ref (am 1), .int (nI cn), .ref (am 2), .int (nI tn), .ref (am 3), .ref (am 4), .ref (am 5), .ref (am 6), .ref (am 7), .ref (am 8), .int (nI mc), .int pl, .int tk, .int (nI fr), .int (nI tj), .ref (am 9), .int (nI 0)])), (am 2, .inl (cB, 16384, .inl f)), (am 9, .inl (cI, 80, .inl (tt_nf dg)))]) [0, 1, 2] rfl) (hD.sub (ws' := [(am 0, .inr (6, [.int ft, .ref (am 1), .int (nI cn), .ref (am 2), .int (nI tn), .ref (am 3), .ref (am 4), .ref (am 5), .ref (am 6), .ref (am 7), .ref (am 8), .int (nI mc), .int pl, .int tk, .int (nI fr), .int (nI tj), .ref (am 9), .int (nI 0)])), (am 2, .inl (cB, 16384, .inl f)), (am 9, .inl (cI, 80, .inl (tt_nf dg)))]) [0, 1, 2] (by decide) rfl) hS ls (lv_sub hl [1, 3, 0] rfl)
  · skip
    have hs45 : tt_ch f tn x = 45 := h45.mp c_13
    refine lv_iload_n hx hb d_MO_isNumber_16 rfl (lv_at hl 1 rfl) ?_
    refine lv_iconst (v := 1) hx hb d_MO_isNumber_17 (by decide) ?_
    refine lv_iadd hx hb d_MO_isNumber_18 ?_
    refine tt_ti (show (nI x) + 1 = nI (x + 1) from nI_add x 1) ?_
    refine lv_goto (tgt := 23) hx hb d_MO_isNumber_19 (by decide) ?_
    refine lv_istore_n (lv' := [(3, .int (nI (x + 1))), (0, .ref (am 0)), (1, .int (nI x)), (2, .int (nI y))]) hx hb d_MO_isNumber_23 rfl hl (by decide) rfl (fun ls hl => ?_)
    have cut_24 : ∀ (k9 : Nat) (j : Nat) (E : Nat → Nat) (d : Nat) (_ : y - j < k9) (hj : tm_st0 f tn x ≤ j ∧ j ≤ y) (hd : d ≤ 66) (hE : ∀ k, k < d → E k < 65536) (he : tm_nl f tn y j (E, d) = tm_nl f tn y (tm_st0 f tn x) (dg, 0)) (H : Heap) (locs : List Loc), va_P D vwCl [(am 0, .inr (6, [.int ft, .ref (am 1), .int (nI cn), .ref (am 2), .int (nI tn), .ref (am 3), .ref (am 4), .ref (am 5), .ref (am 6), .ref (am 7), .ref (am 8), .int (nI mc), .int pl, .int tk, .int (nI fr), .int (nI tj), .ref (am 9), .int (nI d)])), (am 2, .inl (cB, 16384, .inl f)), (am 9, .inl (cI, 80, .inl (tt_nf E)))] H → va_D A [(am 0, .inr (6, [.int ft, .ref (am 1), .int (nI cn), .ref (am 2), .int (nI tn), .ref (am 3), .ref (am 4), .ref (am 5), .ref (am 6), .ref (am 7), .ref (am 8), .int (nI mc), .int pl, .int tk, .int (nI fr), .int (nI tj), .ref (am 9), .int (nI d)])), (am 2, .inl (cB, 16384, .inl f)), (am 9, .inl (cI, 80, .inl (tt_nf E)))] → va_S A s.heap H locs → ∀ ls : Array Slot, lv_has ls 7 [(0, .ref (am 0)), (2, .int (nI y)), (3, .int (nI j))] → W p l e (headSpec w_MO_isNumber rm_MO_isNumber).room s m ([.ref (am 0), .int (nI x), .int (nI y)] : List Value).toArray below meth c H locs 0 0 (MQ below (q_MO_isNumber D cI cB cL am ft cn tn mc pl tk fr tj dn f dg x y A) ([.ref (am 0), .int (nI x), .int (nI y)] : List Value).toArray s 0 0 A) (F0 m 24 ls []) := by
      intro k9
      induction k9 with
      | zero => intro j E d h9; exact absurd h9 (Nat.not_lt_zero _)
      | succ k9 ih_24 =>
        intro j E d h9 hj hd hE he H locs hP hD hS ls hl
        refine lv_iload_n hx hb d_MO_isNumber_24 rfl (lv_at hl 2 rfl) ?_
        refine lv_iload_n hx hb d_MO_isNumber_25 rfl (lv_at hl 1 rfl) ?_
        refine lv_icmp_ge (tgt := 135) hx hb d_MO_isNumber_26 (by decide) (fun c_26 => ?_) (fun c_26 => ?_)
        · have c_26 : y ≤ j := (nI_leI (a := y) (b := j) (by omega) (by omega)).mp c_26
          refine lv_aload_n hx hb d_MO_isNumber_135 rfl (lv_at hl 0 rfl) ?_
          refine tt_roI (va_runV (As := []) (rest := []) ⟨hx, hb, hml, hown, hts⟩ (c_MO_bits l D cI cB cL am ft cn tn mc pl tk fr tj d E (by omega) (by assumption)) (cwV 0 hts (tt_gV k_768 k_770 ks_32 k_7 k_771) rfl rfl rfl hv_MO_bits ⟨Nat.le_of_ble_eq_true rfl, Nat.le_of_ble_eq_true rfl⟩) (tt_ropreV (w := [(am 0, .inr (6, [.int ft, .ref (am 1), .int (nI cn), .ref (am 2), .int (nI tn), .ref (am 3), .ref (am 4), .ref (am 5), .ref (am 6), .ref (am 7), .ref (am 8), .int (nI mc), .int pl, .int tk, .int (nI fr), .int (nI tj), .ref (am 9), .int (nI d)])), (am 9, .inl (cI, 80, .inl (tt_nf E)))]) hK hP [0, 2] rfl (va_recv hK hP (ci := 6) (q0 := 0) rfl rfl)) rfl rfl hl.1 rfl (lv_room (Nat.le_of_ble_eq_true rfl)) d_MO_isNumber_136 ⟨Nat.zero_le _, Nat.zero_le _⟩) hS hP (fun H locs hP hS => ?_)
          have b_136_0 := tm_bits_b E d (by omega) (by first | assumption | exact hN9.2)
          refine lv_sipush (v := 1024) hx hb d_MO_isNumber_139 (by decide) ?_
          refine lv_icmp_gt (tgt := 149) hx hb d_MO_isNumber_142 (by decide) (fun c_142 => ?_) (fun c_142 => ?_)
          · have c_142 : 1024 < (tm_bits E d) := (nI_ltI (a := 1024) (b := (tm_bits E d)) (by omega) (by omega)).mp c_142
            refine lv_iconst (v := 0) hx hb d_MO_isNumber_149 (by decide) ?_
            have o_r : (0 : Int32) = (tt_b ((tm_nl f tn y (tm_st0 f tn x) (dg, 0)).1 && decide (tm_bits (tm_nl f tn y (tm_st0 f tn x) (dg, 0)).2.1 (tm_nl f tn y (tm_st0 f tn x) (dg, 0)).2.2 ≤ 1024))) := by rw [← he, tm_nl, dif_neg (by omega)]; simp [tt_b, eq_true c_13, c_26, Nat.not_lt.mpr c_26, c_142, Nat.not_le.mpr c_142] <;> (intros; omega)
            have o_dn2 : ((tm_nl f tn y (tm_st0 f tn x) (dg, 0)).2.2 : Nat) = d := by rw [← he, tm_nl, dif_neg (by omega)]
            have o_dg2 : ((tm_nl f tn y (tm_st0 f tn x) (dg, 0)).2.1) = E := by rw [← he, tm_nl, dif_neg (by omega)]
            have hP9 : va_P D vwCl [(am 0, .inr (6, [.int ft, .ref (am 1), .int (nI cn), .ref (am 2), .int (nI tn), .ref (am 3), .ref (am 4), .ref (am 5), .ref (am 6), .ref (am 7), .ref (am 8), .int (nI mc), .int pl, .int tk, .int (nI fr), .int (nI tj), .ref (am 9), .int (nI d)])), (am 2, .inl (cB, 16384, .inl f)), (am 9, .inl (cI, 80, .inl (tt_nf E)))] H := hP.sub [0, 1, 2] rfl
            have hD9 : va_D A [(am 0, .inr (6, [.int ft, .ref (am 1), .int (nI cn), .ref (am 2), .int (nI tn), .ref (am 3), .ref (am 4), .ref (am 5), .ref (am 6), .ref (am 7), .ref (am 8), .int (nI mc), .int pl, .int tk, .int (nI fr), .int (nI tj), .ref (am 9), .int (nI d)])), (am 2, .inl (cB, 16384, .inl f)), (am 9, .inl (cI, 80, .inl (tt_nf E)))] := hD.sub [0, 1, 2] (by decide) rfl
            have hP9 : va_P D vwCl [(am 0, .inr (6, [.int ft, .ref (am 1), .int (nI cn), .ref (am 2), .int (nI tn), .ref (am 3), .ref (am 4), .ref (am 5), .ref (am 6), .ref (am 7), .ref (am 8), .int (nI mc), .int pl, .int tk, .int (nI fr), .int (nI tj), .ref (am 9), .int (nI ((tm_nl f tn y (tm_st0 f tn x) (dg, 0)).2.2))])), (am 2, .inl (cB, 16384, .inl f)), (am 9, .inl (cI, 80, .inl (tt_nf ((tm_nl f tn y (tm_st0 f tn x) (dg, 0)).2.1))))] H := by rw [o_dn2, o_dg2]; exact hP9
            have hD9 : va_D A [(am 0, .inr (6, [.int ft, .ref (am 1), .int (nI cn), .ref (am 2), .int (nI tn), .ref (am 3), .ref (am 4), .ref (am 5), .ref (am 6), .ref (am 7), .ref (am 8), .int (nI mc), .int pl, .int tk, .int (nI fr), .int (nI tj), .ref (am 9), .int (nI ((tm_nl f tn y (tm_st0 f tn x) (dg, 0)).2.2))])), (am 2, .inl (cB, 16384, .inl f)), (am 9, .inl (cI, 80, .inl (tt_nf ((tm_nl f tn y (tm_st0 f tn x) (dg, 0)).2.1))))] := by rw [o_dn2, o_dg2]; exact hD9
            exact W.zret (ty := .boolean) (v := 0) hx hb hr (tt_nz o_r) (fun t ht hW => ⟨⟨_, (), rfl, o_r, by rw [ht]; exact hP9, hD9⟩, hS.F ht⟩) hS.2.2 d_MO_isNumber_150
          · have c_142 : ¬ 1024 < (tm_bits E d) := fun z9 => c_142 ((nI_ltI (a := 1024) (b := (tm_bits E d)) (by omega) (by omega)).mpr z9)
            have c_142 := Nat.not_lt.mp c_142
            refine lv_iconst (v := 1) hx hb d_MO_isNumber_145 (by decide) ?_
            refine lv_goto (tgt := 150) hx hb d_MO_isNumber_146 (by decide) ?_
            have o_r : (1 : Int32) = (tt_b ((tm_nl f tn y (tm_st0 f tn x) (dg, 0)).1 && decide (tm_bits (tm_nl f tn y (tm_st0 f tn x) (dg, 0)).2.1 (tm_nl f tn y (tm_st0 f tn x) (dg, 0)).2.2 ≤ 1024))) := by rw [← he, tm_nl, dif_neg (by omega)]; simp [tt_b, eq_true c_13, c_26, Nat.not_lt.mpr c_26, c_142, Nat.not_lt.mpr c_142] <;> (intros; omega)
            have o_dn2 : ((tm_nl f tn y (tm_st0 f tn x) (dg, 0)).2.2 : Nat) = d := by rw [← he, tm_nl, dif_neg (by omega)]
            have o_dg2 : ((tm_nl f tn y (tm_st0 f tn x) (dg, 0)).2.1) = E := by rw [← he, tm_nl, dif_neg (by omega)]
            have hP9 : va_P D vwCl [(am 0, .inr (6, [.int ft, .ref (am 1), .int (nI cn), .ref (am 2), .int (nI tn), .ref (am 3), .ref (am 4), .ref (am 5), .ref (am 6), .ref (am 7), .ref (am 8), .int (nI mc), .int pl, .int tk, .int (nI fr), .int (nI tj), .ref (am 9), .int (nI d)])), (am 2, .inl (cB, 16384, .inl f)), (am 9, .inl (cI, 80, .inl (tt_nf E)))] H := hP.sub [0, 1, 2] rfl
            have hD9 : va_D A [(am 0, .inr (6, [.int ft, .ref (am 1), .int (nI cn), .ref (am 2), .int (nI tn), .ref (am 3), .ref (am 4), .ref (am 5), .ref (am 6), .ref (am 7), .ref (am 8), .int (nI mc), .int pl, .int tk, .int (nI fr), .int (nI tj), .ref (am 9), .int (nI d)])), (am 2, .inl (cB, 16384, .inl f)), (am 9, .inl (cI, 80, .inl (tt_nf E)))] := hD.sub [0, 1, 2] (by decide) rfl
            have hP9 : va_P D vwCl [(am 0, .inr (6, [.int ft, .ref (am 1), .int (nI cn), .ref (am 2), .int (nI tn), .ref (am 3), .ref (am 4), .ref (am 5), .ref (am 6), .ref (am 7), .ref (am 8), .int (nI mc), .int pl, .int tk, .int (nI fr), .int (nI tj), .ref (am 9), .int (nI ((tm_nl f tn y (tm_st0 f tn x) (dg, 0)).2.2))])), (am 2, .inl (cB, 16384, .inl f)), (am 9, .inl (cI, 80, .inl (tt_nf ((tm_nl f tn y (tm_st0 f tn x) (dg, 0)).2.1))))] H := by rw [o_dn2, o_dg2]; exact hP9
            have hD9 : va_D A [(am 0, .inr (6, [.int ft, .ref (am 1), .int (nI cn), .ref (am 2), .int (nI tn), .ref (am 3), .ref (am 4), .ref (am 5), .ref (am 6), .ref (am 7), .ref (am 8), .int (nI mc), .int pl, .int tk, .int (nI fr), .int (nI tj), .ref (am 9), .int (nI ((tm_nl f tn y (tm_st0 f tn x) (dg, 0)).2.2))])), (am 2, .inl (cB, 16384, .inl f)), (am 9, .inl (cI, 80, .inl (tt_nf ((tm_nl f tn y (tm_st0 f tn x) (dg, 0)).2.1))))] := by rw [o_dn2, o_dg2]; exact hD9
            exact W.zret (ty := .boolean) (v := 1) hx hb hr (tt_nz o_r) (fun t ht hW => ⟨⟨_, (), rfl, o_r, by rw [ht]; exact hP9, hD9⟩, hS.F ht⟩) hS.2.2 d_MO_isNumber_150
        · have c_26 : ¬ y ≤ j := fun z9 => c_26 ((nI_leI (a := y) (b := j) (by omega) (by omega)).mpr z9)
          have c_26 := Nat.not_le.mp c_26
          have hdv := tm_dv_ok hf (hdd j hj.1 c_26)
          refine lv_aload_n hx hb d_MO_isNumber_29 rfl (lv_at hl 0 rfl) ?_
          refine va_get (D := D) (ci := 6) (v := .ref (am 2)) (C := R_MO) (T := F_MO) (N := 18) hx hb htT i_MO hown hK hP 0 rfl rfl 3 (by decide) (htT _ k_638) (fun _ h9 => h9) rfl d_MO_isNumber_30 ?_
          refine lv_iload_n hx hb d_MO_isNumber_33 rfl (lv_at hl 2 rfl) ?_
          refine va_bald (D := D) hx hb hK hP 1 1 rfl rfl (vp_in_nI (by omega) (by omega)) d_MO_isNumber_34 ?_
          refine tt_ti (show f (nI j).toNatClampNeg = f j from by rw [nI_clamp (by omega)]) ?_
          refine lv_bipush (v := 48) hx hb d_MO_isNumber_35 (by decide) ?_
          refine lv_isub hx hb d_MO_isNumber_37 ?_
          refine tt_ti (show (f j) - 48 = nI (tm_dv f tn j) from hdv.1) ?_
          refine lv_istore (lv' := [(4, .int (nI (tm_dv f tn j))), (0, .ref (am 0)), (2, .int (nI y)), (3, .int (nI j))]) hx hb d_MO_isNumber_38 hl (by decide) rfl (fun ls hl => ?_)
          refine lv_iconst (v := 0) hx hb d_MO_isNumber_40 (by decide) ?_
          refine lv_istore (lv' := [(5, .int 0), (4, .int (nI (tm_dv f tn j))), (0, .ref (am 0)), (2, .int (nI y)), (3, .int (nI j))]) hx hb d_MO_isNumber_41 hl (by decide) rfl (fun ls hl => ?_)
          have hl : lv_has ls 7 [(5, .int 0), (4, .int (nI (tm_mc E (tm_dv f tn j) 0))), (0, .ref (am 0)), (2, .int (nI y)), (3, .int (nI j))] := hl
          have hP : va_P D vwCl [(am 0, .inr (6, [.int ft, .ref (am 1), .int (nI cn), .ref (am 2), .int (nI tn), .ref (am 3), .ref (am 4), .ref (am 5), .ref (am 6), .ref (am 7), .ref (am 8), .int (nI mc), .int pl, .int tk, .int (nI fr), .int (nI tj), .ref (am 9), .int (nI d)])), (am 2, .inl (cB, 16384, .inl f)), (am 9, .inl (cI, 80, .inl (tt_nf (tm_in E (tm_dv f tn j) 0))))] H := by rw [tm_in_0]; exact hP
          have hD : va_D A [(am 0, .inr (6, [.int ft, .ref (am 1), .int (nI cn), .ref (am 2), .int (nI tn), .ref (am 3), .ref (am 4), .ref (am 5), .ref (am 6), .ref (am 7), .ref (am 8), .int (nI mc), .int pl, .int tk, .int (nI fr), .int (nI tj), .ref (am 9), .int (nI d)])), (am 2, .inl (cB, 16384, .inl f)), (am 9, .inl (cI, 80, .inl (tt_nf (tm_in E (tm_dv f tn j) 0))))] := by rw [tm_in_0]; exact hD
          have cut_43 : ∀ (k9 : Nat) (q : Nat) (_ : d - q < k9) (hq : q ≤ d) (hmc : tm_mc E (tm_dv f tn j) q ≤ 9) (H : Heap) (locs : List Loc), va_P D vwCl [(am 0, .inr (6, [.int ft, .ref (am 1), .int (nI cn), .ref (am 2), .int (nI tn), .ref (am 3), .ref (am 4), .ref (am 5), .ref (am 6), .ref (am 7), .ref (am 8), .int (nI mc), .int pl, .int tk, .int (nI fr), .int (nI tj), .ref (am 9), .int (nI d)])), (am 2, .inl (cB, 16384, .inl f)), (am 9, .inl (cI, 80, .inl (tt_nf (tm_in E (tm_dv f tn j) q))))] H → va_D A [(am 0, .inr (6, [.int ft, .ref (am 1), .int (nI cn), .ref (am 2), .int (nI tn), .ref (am 3), .ref (am 4), .ref (am 5), .ref (am 6), .ref (am 7), .ref (am 8), .int (nI mc), .int pl, .int tk, .int (nI fr), .int (nI tj), .ref (am 9), .int (nI d)])), (am 2, .inl (cB, 16384, .inl f)), (am 9, .inl (cI, 80, .inl (tt_nf (tm_in E (tm_dv f tn j) q))))] → va_S A s.heap H locs → ∀ ls : Array Slot, lv_has ls 7 [(0, .ref (am 0)), (2, .int (nI y)), (3, .int (nI j)), (5, .int (nI q)), (4, .int (nI (tm_mc E (tm_dv f tn j) q)))] → W p l e (headSpec w_MO_isNumber rm_MO_isNumber).room s m ([.ref (am 0), .int (nI x), .int (nI y)] : List Value).toArray below meth c H locs 0 0 (MQ below (q_MO_isNumber D cI cB cL am ft cn tn mc pl tk fr tj dn f dg x y A) ([.ref (am 0), .int (nI x), .int (nI y)] : List Value).toArray s 0 0 A) (F0 m 43 ls []) := by
            intro k9
            induction k9 with
            | zero => intro q h9; exact absurd h9 (Nat.not_lt_zero _)
            | succ k9 ih_43 =>
              intro q h9 hq hmc H locs hP hD hS ls hl
              refine lv_iload hx hb d_MO_isNumber_43 (lv_at hl 3 rfl) ?_
              refine lv_aload_n hx hb d_MO_isNumber_45 rfl (lv_at hl 0 rfl) ?_
              refine va_get (D := D) (ci := 6) (v := .int (nI d)) (C := R_MO) (T := F_MO) (N := 18) hx hb htT i_MO hown hK hP 0 rfl rfl 17 (by decide) (htT _ k_652) (fun _ h9 => h9) rfl d_MO_isNumber_46 ?_
              refine lv_icmp_ge (tgt := 92) hx hb d_MO_isNumber_49 (by decide) (fun c_49 => ?_) (fun c_49 => ?_)
              · have c_49 : d ≤ q := (nI_leI (a := d) (b := q) (by omega) (by omega)).mp c_49
                have hqd : q = d := by omega
                rw [hqd] at hmc
                rw [hqd] at hl hP hD
                have hl : lv_has ls 7 [(0, .ref (am 0)), (2, .int (nI y)), (3, .int (nI j)), (5, .int (nI d)), (4, .int (nI (tm_mc E (tm_dv f tn j) d)))] := hl
                have hP : va_P D vwCl [(am 0, .inr (6, [.int ft, .ref (am 1), .int (nI cn), .ref (am 2), .int (nI tn), .ref (am 3), .ref (am 4), .ref (am 5), .ref (am 6), .ref (am 7), .ref (am 8), .int (nI mc), .int pl, .int tk, .int (nI fr), .int (nI tj), .ref (am 9), .int (nI d)])), (am 2, .inl (cB, 16384, .inl f)), (am 9, .inl (cI, 80, .inl (tt_nf (tm_in E (tm_dv f tn j) d))))] H := hP
                have hD : va_D A [(am 0, .inr (6, [.int ft, .ref (am 1), .int (nI cn), .ref (am 2), .int (nI tn), .ref (am 3), .ref (am 4), .ref (am 5), .ref (am 6), .ref (am 7), .ref (am 8), .int (nI mc), .int pl, .int tk, .int (nI fr), .int (nI tj), .ref (am 9), .int (nI d)])), (am 2, .inl (cB, 16384, .inl f)), (am 9, .inl (cI, 80, .inl (tt_nf (tm_in E (tm_dv f tn j) d))))] := hD
                refine lv_iload hx hb d_MO_isNumber_92 (lv_at hl 4 rfl) ?_
                refine lv_if_le (tgt := 118) hx hb d_MO_isNumber_94 (by decide) (fun c_94 => ?_) (fun c_94 => ?_)
                · have c_94 : (tm_mc E (tm_dv f tn j) d) ≤ 0 := (nI_leI (a := (tm_mc E (tm_dv f tn j) d)) (b := 0) (by omega) (by omega)).mp c_94
                  have hstep : tm_step (E, d) (tm_dv f tn j) = (tm_in E (tm_dv f tn j) d, d) := by simp [tm_step, Nat.le_zero.mp c_94]
                  refine lv_aload_n hx hb d_MO_isNumber_118 rfl (lv_at hl 0 rfl) ?_
                  refine va_get (D := D) (ci := 6) (v := .int (nI d)) (C := R_MO) (T := F_MO) (N := 18) hx hb htT i_MO hown hK hP 0 rfl rfl 17 (by decide) (htT _ k_652) (fun _ h9 => h9) rfl d_MO_isNumber_119 ?_
                  refine lv_bipush (v := 66) hx hb d_MO_isNumber_122 (by decide) ?_
                  refine lv_icmp_le (tgt := 129) hx hb d_MO_isNumber_124 (by decide) (fun c_124 => ?_) (fun c_124 => ?_)
                  · have c_124 : d ≤ 66 := (nI_leI (a := d) (b := 66) (by omega) (by omega)).mp c_124
                    refine lv_iinc (v := nI (j + 1)) (lv' := [(3, .int (nI (j + 1))), (0, .ref (am 0)), (2, .int (nI y)), (5, .int (nI d)), (4, .int (nI (tm_mc E (tm_dv f tn j) d)))]) hx hb d_MO_isNumber_129 hl (k := 2) rfl (nI_add j 1) (by decide) rfl (fun ls hl => ?_)
                    refine lv_goto (tgt := 24) hx hb d_MO_isNumber_132 (by decide) ?_
                    exact ih_24 (j + 1) (tm_in E (tm_dv f tn j) d) d (by omega) (by omega) (by omega) (by have h7 := tm_step_ok hE hdv.2; rw [hstep] at h7; exact h7) (by rw [tm_nl, dif_pos c_26, hstep, if_neg (by dsimp only; omega)] at he; exact he) _ _ (hP.sub (ws' := [(am 0, .inr (6, [.int ft, .ref (am 1), .int (nI cn), .ref (am 2), .int (nI tn), .ref (am 3), .ref (am 4), .ref (am 5), .ref (am 6), .ref (am 7), .ref (am 8), .int (nI mc), .int pl, .int tk, .int (nI fr), .int (nI tj), .ref (am 9), .int (nI d)])), (am 2, .inl (cB, 16384, .inl f)), (am 9, .inl (cI, 80, .inl (tt_nf (tm_in E (tm_dv f tn j) d))))]) [0, 1, 2] rfl) (hD.sub (ws' := [(am 0, .inr (6, [.int ft, .ref (am 1), .int (nI cn), .ref (am 2), .int (nI tn), .ref (am 3), .ref (am 4), .ref (am 5), .ref (am 6), .ref (am 7), .ref (am 8), .int (nI mc), .int pl, .int tk, .int (nI fr), .int (nI tj), .ref (am 9), .int (nI d)])), (am 2, .inl (cB, 16384, .inl f)), (am 9, .inl (cI, 80, .inl (tt_nf (tm_in E (tm_dv f tn j) d))))]) [0, 1, 2] (by decide) rfl) hS ls (lv_sub hl [1, 2, 0] rfl)
                  · have c_124 : ¬ d ≤ 66 := fun z9 => c_124 ((nI_leI (a := d) (b := 66) (by omega) (by omega)).mpr z9)
                    have c_124 := Nat.not_le.mp c_124
                    refine lv_iconst (v := 0) hx hb d_MO_isNumber_127 (by decide) ?_
                    have o_r : (0 : Int32) = (tt_b ((tm_nl f tn y (tm_st0 f tn x) (dg, 0)).1 && decide (tm_bits (tm_nl f tn y (tm_st0 f tn x) (dg, 0)).2.1 (tm_nl f tn y (tm_st0 f tn x) (dg, 0)).2.2 ≤ 1024))) := by rw [← he, tm_nl, dif_pos c_26, hstep, if_pos (by dsimp only; omega)]; rfl
                    have o_dn2 : ((tm_nl f tn y (tm_st0 f tn x) (dg, 0)).2.2 : Nat) = d := by rw [← he, tm_nl, dif_pos c_26, hstep, if_pos (by dsimp only; omega)]
                    have o_dg2 : ((tm_nl f tn y (tm_st0 f tn x) (dg, 0)).2.1) = (tm_in E (tm_dv f tn j) d) := by rw [← he, tm_nl, dif_pos c_26, hstep, if_pos (by dsimp only; omega)]
                    have hP9 : va_P D vwCl [(am 0, .inr (6, [.int ft, .ref (am 1), .int (nI cn), .ref (am 2), .int (nI tn), .ref (am 3), .ref (am 4), .ref (am 5), .ref (am 6), .ref (am 7), .ref (am 8), .int (nI mc), .int pl, .int tk, .int (nI fr), .int (nI tj), .ref (am 9), .int (nI d)])), (am 2, .inl (cB, 16384, .inl f)), (am 9, .inl (cI, 80, .inl (tt_nf (tm_in E (tm_dv f tn j) d))))] H := hP.sub [0, 1, 2] rfl
                    have hD9 : va_D A [(am 0, .inr (6, [.int ft, .ref (am 1), .int (nI cn), .ref (am 2), .int (nI tn), .ref (am 3), .ref (am 4), .ref (am 5), .ref (am 6), .ref (am 7), .ref (am 8), .int (nI mc), .int pl, .int tk, .int (nI fr), .int (nI tj), .ref (am 9), .int (nI d)])), (am 2, .inl (cB, 16384, .inl f)), (am 9, .inl (cI, 80, .inl (tt_nf (tm_in E (tm_dv f tn j) d))))] := hD.sub [0, 1, 2] (by decide) rfl
                    have hP9 : va_P D vwCl [(am 0, .inr (6, [.int ft, .ref (am 1), .int (nI cn), .ref (am 2), .int (nI tn), .ref (am 3), .ref (am 4), .ref (am 5), .ref (am 6), .ref (am 7), .ref (am 8), .int (nI mc), .int pl, .int tk, .int (nI fr), .int (nI tj), .ref (am 9), .int (nI ((tm_nl f tn y (tm_st0 f tn x) (dg, 0)).2.2))])), (am 2, .inl (cB, 16384, .inl f)), (am 9, .inl (cI, 80, .inl (tt_nf ((tm_nl f tn y (tm_st0 f tn x) (dg, 0)).2.1))))] H := by rw [o_dn2, o_dg2]; exact hP9
                    have hD9 : va_D A [(am 0, .inr (6, [.int ft, .ref (am 1), .int (nI cn), .ref (am 2), .int (nI tn), .ref (am 3), .ref (am 4), .ref (am 5), .ref (am 6), .ref (am 7), .ref (am 8), .int (nI mc), .int pl, .int tk, .int (nI fr), .int (nI tj), .ref (am 9), .int (nI ((tm_nl f tn y (tm_st0 f tn x) (dg, 0)).2.2))])), (am 2, .inl (cB, 16384, .inl f)), (am 9, .inl (cI, 80, .inl (tt_nf ((tm_nl f tn y (tm_st0 f tn x) (dg, 0)).2.1))))] := by rw [o_dn2, o_dg2]; exact hD9
                    exact W.zret (ty := .boolean) (v := 0) hx hb hr (tt_nz o_r) (fun t ht hW => ⟨⟨_, (), rfl, o_r, by rw [ht]; exact hP9, hD9⟩, hS.F ht⟩) hS.2.2 d_MO_isNumber_128
                · have c_94 : ¬ (tm_mc E (tm_dv f tn j) d) ≤ 0 := fun z9 => c_94 ((nI_leI (a := (tm_mc E (tm_dv f tn j) d)) (b := 0) (by omega) (by omega)).mpr z9)
                  have c_94 := Nat.not_le.mp c_94
                  have hstep : tm_step (E, d) (tm_dv f tn j) = (tm_put (tm_in E (tm_dv f tn j) d) d (tm_mc E (tm_dv f tn j) d), d + 1) := by simp [tm_step, show ¬ tm_mc E (tm_dv f tn j) d = 0 by omega]
                  refine lv_aload_n hx hb d_MO_isNumber_97 rfl (lv_at hl 0 rfl) ?_
                  refine va_get (D := D) (ci := 6) (v := .ref (am 9)) (C := R_MO) (T := F_MO) (N := 18) hx hb htT i_MO hown hK hP 0 rfl rfl 16 (by decide) (htT _ k_651) (fun _ h9 => h9) rfl d_MO_isNumber_98 ?_
                  refine lv_aload_n hx hb d_MO_isNumber_101 rfl (lv_at hl 0 rfl) ?_
                  refine va_get (D := D) (ci := 6) (v := .int (nI d)) (C := R_MO) (T := F_MO) (N := 18) hx hb htT i_MO hown hK hP 0 rfl rfl 17 (by decide) (htT _ k_652) (fun _ h9 => h9) rfl d_MO_isNumber_102 ?_
                  refine lv_iload hx hb d_MO_isNumber_105 (lv_at hl 4 rfl) ?_
                  refine va_iast (D := D) hx hb hK hP hD hS 2 0 rfl rfl (vp_in_nI (by omega) (by omega)) d_MO_isNumber_107 (fun H locs hP hD hS => ?_)
                  rw [nI_clamp (show d < 2 ^ 31 by omega)] at hP hD
                  have hP : va_P D vwCl [(am 0, .inr (6, [.int ft, .ref (am 1), .int (nI cn), .ref (am 2), .int (nI tn), .ref (am 3), .ref (am 4), .ref (am 5), .ref (am 6), .ref (am 7), .ref (am 8), .int (nI mc), .int pl, .int tk, .int (nI fr), .int (nI tj), .ref (am 9), .int (nI d)])), (am 2, .inl (cB, 16384, .inl f)), (am 9, .inl (cI, 80, .inl (upd (tt_nf (tm_in E (tm_dv f tn j) d)) d (nI (tm_mc E (tm_dv f tn j) d)))))] H := hP
                  have hD : va_D A [(am 0, .inr (6, [.int ft, .ref (am 1), .int (nI cn), .ref (am 2), .int (nI tn), .ref (am 3), .ref (am 4), .ref (am 5), .ref (am 6), .ref (am 7), .ref (am 8), .int (nI mc), .int pl, .int tk, .int (nI fr), .int (nI tj), .ref (am 9), .int (nI d)])), (am 2, .inl (cB, 16384, .inl f)), (am 9, .inl (cI, 80, .inl (upd (tt_nf (tm_in E (tm_dv f tn j) d)) d (nI (tm_mc E (tm_dv f tn j) d)))))] := hD
                  rw [tt_updN] at hP hD
                  have hP : va_P D vwCl [(am 0, .inr (6, [.int ft, .ref (am 1), .int (nI cn), .ref (am 2), .int (nI tn), .ref (am 3), .ref (am 4), .ref (am 5), .ref (am 6), .ref (am 7), .ref (am 8), .int (nI mc), .int pl, .int tk, .int (nI fr), .int (nI tj), .ref (am 9), .int (nI d)])), (am 2, .inl (cB, 16384, .inl f)), (am 9, .inl (cI, 80, .inl (tt_nf (tm_put (tm_in E (tm_dv f tn j) d) d (tm_mc E (tm_dv f tn j) d)))))] H := hP
                  have hD : va_D A [(am 0, .inr (6, [.int ft, .ref (am 1), .int (nI cn), .ref (am 2), .int (nI tn), .ref (am 3), .ref (am 4), .ref (am 5), .ref (am 6), .ref (am 7), .ref (am 8), .int (nI mc), .int pl, .int tk, .int (nI fr), .int (nI tj), .ref (am 9), .int (nI d)])), (am 2, .inl (cB, 16384, .inl f)), (am 9, .inl (cI, 80, .inl (tt_nf (tm_put (tm_in E (tm_dv f tn j) d) d (tm_mc E (tm_dv f tn j) d)))))] := hD
                  refine lv_aload_n hx hb d_MO_isNumber_108 rfl (lv_at hl 0 rfl) ?_
                  refine lv_dup hx hb d_MO_isNumber_109 rfl ?_
                  refine va_get (D := D) (ci := 6) (v := .int (nI d)) (C := R_MO) (T := F_MO) (N := 18) hx hb htT i_MO hown hK hP 0 rfl rfl 17 (by decide) (htT _ k_652) (fun _ h9 => h9) rfl d_MO_isNumber_110 ?_
                  refine lv_iconst (v := 1) hx hb d_MO_isNumber_113 (by decide) ?_
                  refine lv_iadd hx hb d_MO_isNumber_114 ?_
                  refine tt_ti (show (nI d) + 1 = nI (d + 1) from nI_add d 1) ?_
                  refine va_put (D := D) (ci := 6) (v := .int (nI (d + 1))) (ty := .int) (C := R_MO) (T := F_MO) (N := 18) hx hb htT i_MO t_MO t_MO_ok n_MO hown hK hP hD hS 0 rfl rfl 17 (by decide) (htT _ k_652) (fun _ h9 => h9) rfl (by decide +kernel) rfl rfl (Nat.le_of_ble_eq_true rfl) d_MO_isNumber_115 (fun H locs hP hD hS => ?_)
                  have hP : va_P D vwCl [(am 0, .inr (6, [.int ft, .ref (am 1), .int (nI cn), .ref (am 2), .int (nI tn), .ref (am 3), .ref (am 4), .ref (am 5), .ref (am 6), .ref (am 7), .ref (am 8), .int (nI mc), .int pl, .int tk, .int (nI fr), .int (nI tj), .ref (am 9), .int (nI (d + 1))])), (am 2, .inl (cB, 16384, .inl f)), (am 9, .inl (cI, 80, .inl (tt_nf (tm_put (tm_in E (tm_dv f tn j) d) d (tm_mc E (tm_dv f tn j) d)))))] H := hP
                  have hD : va_D A [(am 0, .inr (6, [.int ft, .ref (am 1), .int (nI cn), .ref (am 2), .int (nI tn), .ref (am 3), .ref (am 4), .ref (am 5), .ref (am 6), .ref (am 7), .ref (am 8), .int (nI mc), .int pl, .int tk, .int (nI fr), .int (nI tj), .ref (am 9), .int (nI (d + 1))])), (am 2, .inl (cB, 16384, .inl f)), (am 9, .inl (cI, 80, .inl (tt_nf (tm_put (tm_in E (tm_dv f tn j) d) d (tm_mc E (tm_dv f tn j) d)))))] := hD
                  refine lv_aload_n hx hb d_MO_isNumber_118 rfl (lv_at hl 0 rfl) ?_
                  refine va_get (D := D) (ci := 6) (v := .int (nI (d + 1))) (C := R_MO) (T := F_MO) (N := 18) hx hb htT i_MO hown hK hP 0 rfl rfl 17 (by decide) (htT _ k_652) (fun _ h9 => h9) rfl d_MO_isNumber_119 ?_
                  refine lv_bipush (v := 66) hx hb d_MO_isNumber_122 (by decide) ?_
                  refine lv_icmp_le (tgt := 129) hx hb d_MO_isNumber_124 (by decide) (fun c_124 => ?_) (fun c_124 => ?_)
                  · have c_124 : (d + 1) ≤ 66 := (nI_leI (a := (d + 1)) (b := 66) (by omega) (by omega)).mp c_124
                    refine lv_iinc (v := nI (j + 1)) (lv' := [(3, .int (nI (j + 1))), (0, .ref (am 0)), (2, .int (nI y)), (5, .int (nI d)), (4, .int (nI (tm_mc E (tm_dv f tn j) d)))]) hx hb d_MO_isNumber_129 hl (k := 2) rfl (nI_add j 1) (by decide) rfl (fun ls hl => ?_)
                    refine lv_goto (tgt := 24) hx hb d_MO_isNumber_132 (by decide) ?_
                    exact ih_24 (j + 1) (tm_put (tm_in E (tm_dv f tn j) d) d (tm_mc E (tm_dv f tn j) d)) (d + 1) (by omega) (by omega) (by omega) (by have h7 := tm_step_ok hE hdv.2; rw [hstep] at h7; exact h7) (by rw [tm_nl, dif_pos c_26, hstep, if_neg (by dsimp only; omega)] at he; exact he) _ _ (hP.sub (ws' := [(am 0, .inr (6, [.int ft, .ref (am 1), .int (nI cn), .ref (am 2), .int (nI tn), .ref (am 3), .ref (am 4), .ref (am 5), .ref (am 6), .ref (am 7), .ref (am 8), .int (nI mc), .int pl, .int tk, .int (nI fr), .int (nI tj), .ref (am 9), .int (nI (d + 1))])), (am 2, .inl (cB, 16384, .inl f)), (am 9, .inl (cI, 80, .inl (tt_nf (tm_put (tm_in E (tm_dv f tn j) d) d (tm_mc E (tm_dv f tn j) d)))))]) [0, 1, 2] rfl) (hD.sub (ws' := [(am 0, .inr (6, [.int ft, .ref (am 1), .int (nI cn), .ref (am 2), .int (nI tn), .ref (am 3), .ref (am 4), .ref (am 5), .ref (am 6), .ref (am 7), .ref (am 8), .int (nI mc), .int pl, .int tk, .int (nI fr), .int (nI tj), .ref (am 9), .int (nI (d + 1))])), (am 2, .inl (cB, 16384, .inl f)), (am 9, .inl (cI, 80, .inl (tt_nf (tm_put (tm_in E (tm_dv f tn j) d) d (tm_mc E (tm_dv f tn j) d)))))]) [0, 1, 2] (by decide) rfl) hS ls (lv_sub hl [1, 2, 0] rfl)
                  · have c_124 : ¬ (d + 1) ≤ 66 := fun z9 => c_124 ((nI_leI (a := (d + 1)) (b := 66) (by omega) (by omega)).mpr z9)
                    have c_124 := Nat.not_le.mp c_124
                    refine lv_iconst (v := 0) hx hb d_MO_isNumber_127 (by decide) ?_
                    have o_r : (0 : Int32) = (tt_b ((tm_nl f tn y (tm_st0 f tn x) (dg, 0)).1 && decide (tm_bits (tm_nl f tn y (tm_st0 f tn x) (dg, 0)).2.1 (tm_nl f tn y (tm_st0 f tn x) (dg, 0)).2.2 ≤ 1024))) := by rw [← he, tm_nl, dif_pos c_26, hstep, if_pos (by dsimp only; omega)]; rfl
                    have o_dn2 : ((tm_nl f tn y (tm_st0 f tn x) (dg, 0)).2.2 : Nat) = (d + 1) := by rw [← he, tm_nl, dif_pos c_26, hstep, if_pos (by dsimp only; omega)]
                    have o_dg2 : ((tm_nl f tn y (tm_st0 f tn x) (dg, 0)).2.1) = (tm_put (tm_in E (tm_dv f tn j) d) d (tm_mc E (tm_dv f tn j) d)) := by rw [← he, tm_nl, dif_pos c_26, hstep, if_pos (by dsimp only; omega)]
                    have hP9 : va_P D vwCl [(am 0, .inr (6, [.int ft, .ref (am 1), .int (nI cn), .ref (am 2), .int (nI tn), .ref (am 3), .ref (am 4), .ref (am 5), .ref (am 6), .ref (am 7), .ref (am 8), .int (nI mc), .int pl, .int tk, .int (nI fr), .int (nI tj), .ref (am 9), .int (nI (d + 1))])), (am 2, .inl (cB, 16384, .inl f)), (am 9, .inl (cI, 80, .inl (tt_nf (tm_put (tm_in E (tm_dv f tn j) d) d (tm_mc E (tm_dv f tn j) d)))))] H := hP.sub [0, 1, 2] rfl
                    have hD9 : va_D A [(am 0, .inr (6, [.int ft, .ref (am 1), .int (nI cn), .ref (am 2), .int (nI tn), .ref (am 3), .ref (am 4), .ref (am 5), .ref (am 6), .ref (am 7), .ref (am 8), .int (nI mc), .int pl, .int tk, .int (nI fr), .int (nI tj), .ref (am 9), .int (nI (d + 1))])), (am 2, .inl (cB, 16384, .inl f)), (am 9, .inl (cI, 80, .inl (tt_nf (tm_put (tm_in E (tm_dv f tn j) d) d (tm_mc E (tm_dv f tn j) d)))))] := hD.sub [0, 1, 2] (by decide) rfl
                    have hP9 : va_P D vwCl [(am 0, .inr (6, [.int ft, .ref (am 1), .int (nI cn), .ref (am 2), .int (nI tn), .ref (am 3), .ref (am 4), .ref (am 5), .ref (am 6), .ref (am 7), .ref (am 8), .int (nI mc), .int pl, .int tk, .int (nI fr), .int (nI tj), .ref (am 9), .int (nI ((tm_nl f tn y (tm_st0 f tn x) (dg, 0)).2.2))])), (am 2, .inl (cB, 16384, .inl f)), (am 9, .inl (cI, 80, .inl (tt_nf ((tm_nl f tn y (tm_st0 f tn x) (dg, 0)).2.1))))] H := by rw [o_dn2, o_dg2]; exact hP9
                    have hD9 : va_D A [(am 0, .inr (6, [.int ft, .ref (am 1), .int (nI cn), .ref (am 2), .int (nI tn), .ref (am 3), .ref (am 4), .ref (am 5), .ref (am 6), .ref (am 7), .ref (am 8), .int (nI mc), .int pl, .int tk, .int (nI fr), .int (nI tj), .ref (am 9), .int (nI ((tm_nl f tn y (tm_st0 f tn x) (dg, 0)).2.2))])), (am 2, .inl (cB, 16384, .inl f)), (am 9, .inl (cI, 80, .inl (tt_nf ((tm_nl f tn y (tm_st0 f tn x) (dg, 0)).2.1))))] := by rw [o_dn2, o_dg2]; exact hD9
                    exact W.zret (ty := .boolean) (v := 0) hx hb hr (tt_nz o_r) (fun t ht hW => ⟨⟨_, (), rfl, o_r, by rw [ht]; exact hP9, hD9⟩, hS.F ht⟩) hS.2.2 d_MO_isNumber_128
              · have c_49 : ¬ d ≤ q := fun z9 => c_49 ((nI_leI (a := d) (b := q) (by omega) (by omega)).mpr z9)
                have c_49 := Nat.not_le.mp c_49
                have hEq := hE q c_49
                refine lv_bipush (v := 10) hx hb d_MO_isNumber_52 (by decide) ?_
                refine lv_aload_n hx hb d_MO_isNumber_54 rfl (lv_at hl 0 rfl) ?_
                refine va_get (D := D) (ci := 6) (v := .ref (am 9)) (C := R_MO) (T := F_MO) (N := 18) hx hb htT i_MO hown hK hP 0 rfl rfl 16 (by decide) (htT _ k_651) (fun _ h9 => h9) rfl d_MO_isNumber_55 ?_
                refine lv_iload hx hb d_MO_isNumber_58 (lv_at hl 3 rfl) ?_
                refine va_iald (D := D) hx hb hK hP 2 0 rfl rfl (vp_in_nI (by omega) (by omega)) d_MO_isNumber_60 ?_
                refine tt_ti (show (tt_nf (tm_in E (tm_dv f tn j) q)) (nI q).toNatClampNeg = (tt_nf (tm_in E (tm_dv f tn j) q)) q from by rw [nI_clamp (by omega)]) ?_
                refine tt_ti (show (tt_nf (tm_in E (tm_dv f tn j) q)) q = nI (E q) from show nI (tm_in E (tm_dv f tn j) q q) = nI (E q) from by rw [tm_in_at]) ?_
                refine lv_imul hx hb d_MO_isNumber_61 ?_
                refine tt_ti (show 10 * (nI (E q)) = nI (10 * (E q)) from pk_mul 10 (E q)) ?_
                refine lv_iload hx hb d_MO_isNumber_62 (lv_at hl 4 rfl) ?_
                refine lv_iadd hx hb d_MO_isNumber_64 ?_
                refine tt_ti (show (nI (10 * (E q))) + (nI (tm_mc E (tm_dv f tn j) q)) = nI ((10 * (E q)) + (tm_mc E (tm_dv f tn j) q)) from nI_add (10 * (E q)) (tm_mc E (tm_dv f tn j) q)) ?_
                refine lv_istore (lv' := [(6, .int (nI ((10 * (E q)) + (tm_mc E (tm_dv f tn j) q)))), (0, .ref (am 0)), (2, .int (nI y)), (3, .int (nI j)), (5, .int (nI q)), (4, .int (nI (tm_mc E (tm_dv f tn j) q)))]) hx hb d_MO_isNumber_65 hl (by decide) rfl (fun ls hl => ?_)
                refine lv_aload_n hx hb d_MO_isNumber_67 rfl (lv_at hl 1 rfl) ?_
                refine va_get (D := D) (ci := 6) (v := .ref (am 9)) (C := R_MO) (T := F_MO) (N := 18) hx hb htT i_MO hown hK hP 0 rfl rfl 16 (by decide) (htT _ k_651) (fun _ h9 => h9) rfl d_MO_isNumber_68 ?_
                refine lv_iload hx hb d_MO_isNumber_71 (lv_at hl 4 rfl) ?_
                refine lv_iload hx hb d_MO_isNumber_73 (lv_at hl 0 rfl) ?_
                refine lv_ldc (v := 65536) hx hb hown (htT _ k_767) d_MO_isNumber_75 ?_
                refine lv_irem hx hb d_MO_isNumber_77 (by decide) ?_
                refine tt_ti (show (nI ((10 * (E q)) + (tm_mc E (tm_dv f tn j) q))) - (nI ((10 * (E q)) + (tm_mc E (tm_dv f tn j) q))) / 65536 * 65536 = nI (((10 * (E q)) + (tm_mc E (tm_dv f tn j) q)) % 65536) from pk_rem (a := ((10 * (E q)) + (tm_mc E (tm_dv f tn j) q))) (d := 65536) (by omega) (by omega) (by omega)) ?_
                refine va_iast (D := D) hx hb hK hP hD hS 2 0 rfl rfl (vp_in_nI (by omega) (by omega)) d_MO_isNumber_78 (fun H locs hP hD hS => ?_)
                rw [nI_clamp (show q < 2 ^ 31 by omega)] at hP hD
                have hP : va_P D vwCl [(am 0, .inr (6, [.int ft, .ref (am 1), .int (nI cn), .ref (am 2), .int (nI tn), .ref (am 3), .ref (am 4), .ref (am 5), .ref (am 6), .ref (am 7), .ref (am 8), .int (nI mc), .int pl, .int tk, .int (nI fr), .int (nI tj), .ref (am 9), .int (nI d)])), (am 2, .inl (cB, 16384, .inl f)), (am 9, .inl (cI, 80, .inl (upd (tt_nf (tm_in E (tm_dv f tn j) q)) q (nI (((10 * (E q)) + (tm_mc E (tm_dv f tn j) q)) % 65536)))))] H := hP
                have hD : va_D A [(am 0, .inr (6, [.int ft, .ref (am 1), .int (nI cn), .ref (am 2), .int (nI tn), .ref (am 3), .ref (am 4), .ref (am 5), .ref (am 6), .ref (am 7), .ref (am 8), .int (nI mc), .int pl, .int tk, .int (nI fr), .int (nI tj), .ref (am 9), .int (nI d)])), (am 2, .inl (cB, 16384, .inl f)), (am 9, .inl (cI, 80, .inl (upd (tt_nf (tm_in E (tm_dv f tn j) q)) q (nI (((10 * (E q)) + (tm_mc E (tm_dv f tn j) q)) % 65536)))))] := hD
                rw [tt_updN, tm_in_s] at hP hD
                have hP : va_P D vwCl [(am 0, .inr (6, [.int ft, .ref (am 1), .int (nI cn), .ref (am 2), .int (nI tn), .ref (am 3), .ref (am 4), .ref (am 5), .ref (am 6), .ref (am 7), .ref (am 8), .int (nI mc), .int pl, .int tk, .int (nI fr), .int (nI tj), .ref (am 9), .int (nI d)])), (am 2, .inl (cB, 16384, .inl f)), (am 9, .inl (cI, 80, .inl (tt_nf (tm_in E (tm_dv f tn j) (q + 1)))))] H := hP
                have hD : va_D A [(am 0, .inr (6, [.int ft, .ref (am 1), .int (nI cn), .ref (am 2), .int (nI tn), .ref (am 3), .ref (am 4), .ref (am 5), .ref (am 6), .ref (am 7), .ref (am 8), .int (nI mc), .int pl, .int tk, .int (nI fr), .int (nI tj), .ref (am 9), .int (nI d)])), (am 2, .inl (cB, 16384, .inl f)), (am 9, .inl (cI, 80, .inl (tt_nf (tm_in E (tm_dv f tn j) (q + 1)))))] := hD
                refine lv_iload hx hb d_MO_isNumber_79 (lv_at hl 0 rfl) ?_
                refine lv_ldc (v := 65536) hx hb hown (htT _ k_767) d_MO_isNumber_81 ?_
                refine lv_idiv hx hb d_MO_isNumber_83 (by decide) ?_
                refine tt_ti (show (nI ((10 * (E q)) + (tm_mc E (tm_dv f tn j) q))) / 65536 = nI (tm_mc E (tm_dv f tn j) (q + 1)) from pk_div (a := 10 * E q + tm_mc E (tm_dv f tn j) q) (d := 65536) (by omega) (by omega) (by omega)) ?_
                refine lv_istore (lv' := [(4, .int (nI (tm_mc E (tm_dv f tn j) (q + 1)))), (6, .int (nI ((10 * (E q)) + (tm_mc E (tm_dv f tn j) q)))), (0, .ref (am 0)), (2, .int (nI y)), (3, .int (nI j)), (5, .int (nI q))]) hx hb d_MO_isNumber_84 hl (by decide) rfl (fun ls hl => ?_)
                refine lv_iinc (v := nI (q + 1)) (lv' := [(5, .int (nI (q + 1))), (4, .int (nI (tm_mc E (tm_dv f tn j) (q + 1)))), (6, .int (nI ((10 * (E q)) + (tm_mc E (tm_dv f tn j) q)))), (0, .ref (am 0)), (2, .int (nI y)), (3, .int (nI j))]) hx hb d_MO_isNumber_86 hl (k := 5) rfl (nI_add q 1) (by decide) rfl (fun ls hl => ?_)
                refine lv_goto (tgt := 43) hx hb d_MO_isNumber_89 (by decide) ?_
                exact ih_43 (q + 1) (by omega) (by omega) (by exact tm_mc_le hE hdv.2 (q + 1) (by omega)) _ _ (hP.sub (ws' := [(am 0, .inr (6, [.int ft, .ref (am 1), .int (nI cn), .ref (am 2), .int (nI tn), .ref (am 3), .ref (am 4), .ref (am 5), .ref (am 6), .ref (am 7), .ref (am 8), .int (nI mc), .int pl, .int tk, .int (nI fr), .int (nI tj), .ref (am 9), .int (nI d)])), (am 2, .inl (cB, 16384, .inl f)), (am 9, .inl (cI, 80, .inl (tt_nf (tm_in E (tm_dv f tn j) (q + 1)))))]) [0, 1, 2] rfl) (hD.sub (ws' := [(am 0, .inr (6, [.int ft, .ref (am 1), .int (nI cn), .ref (am 2), .int (nI tn), .ref (am 3), .ref (am 4), .ref (am 5), .ref (am 6), .ref (am 7), .ref (am 8), .int (nI mc), .int pl, .int tk, .int (nI fr), .int (nI tj), .ref (am 9), .int (nI d)])), (am 2, .inl (cB, 16384, .inl f)), (am 9, .inl (cI, 80, .inl (tt_nf (tm_in E (tm_dv f tn j) (q + 1)))))]) [0, 1, 2] (by decide) rfl) hS ls (lv_sub hl [3, 4, 5, 0, 1] rfl)
          exact cut_43 _ 0 (Nat.lt_succ_self _) (by omega) (by exact hdv.2) _ _ (hP.sub (ws' := [(am 0, .inr (6, [.int ft, .ref (am 1), .int (nI cn), .ref (am 2), .int (nI tn), .ref (am 3), .ref (am 4), .ref (am 5), .ref (am 6), .ref (am 7), .ref (am 8), .int (nI mc), .int pl, .int tk, .int (nI fr), .int (nI tj), .ref (am 9), .int (nI d)])), (am 2, .inl (cB, 16384, .inl f)), (am 9, .inl (cI, 80, .inl (tt_nf (tm_in E (tm_dv f tn j) 0))))]) [0, 1, 2] rfl) (hD.sub (ws' := [(am 0, .inr (6, [.int ft, .ref (am 1), .int (nI cn), .ref (am 2), .int (nI tn), .ref (am 3), .ref (am 4), .ref (am 5), .ref (am 6), .ref (am 7), .ref (am 8), .int (nI mc), .int pl, .int tk, .int (nI fr), .int (nI tj), .ref (am 9), .int (nI d)])), (am 2, .inl (cB, 16384, .inl f)), (am 9, .inl (cI, 80, .inl (tt_nf (tm_in E (tm_dv f tn j) 0))))]) [0, 1, 2] (by decide) rfl) hS ls (lv_sub hl [2, 3, 4, 0, 1] rfl)
    exact cut_24 _ (x + 1) dg 0 (Nat.lt_succ_self _) (by simp [tm_st0, hs45]; omega) (by omega) (by intro k h; omega) (by simp [tm_st0, hs45]) _ _ (hP.sub (ws' := [(am 0, .inr (6, [.int ft, .ref (am 1), .int (nI cn), .ref (am 2), .int (nI tn), .ref (am 3), .ref (am 4), .ref (am 5), .ref (am 6), .ref (am 7), .ref (am 8), .int (nI mc), .int pl, .int tk, .int (nI fr), .int (nI tj), .ref (am 9), .int (nI 0)])), (am 2, .inl (cB, 16384, .inl f)), (am 9, .inl (cI, 80, .inl (tt_nf dg)))]) [0, 1, 2] rfl) (hD.sub (ws' := [(am 0, .inr (6, [.int ft, .ref (am 1), .int (nI cn), .ref (am 2), .int (nI tn), .ref (am 3), .ref (am 4), .ref (am 5), .ref (am 6), .ref (am 7), .ref (am 8), .int (nI mc), .int pl, .int tk, .int (nI fr), .int (nI tj), .ref (am 9), .int (nI 0)])), (am 2, .inl (cB, 16384, .inl f)), (am 9, .inl (cI, 80, .inl (tt_nf dg)))]) [0, 1, 2] (by decide) rfl) hS ls (lv_sub hl [1, 3, 0] rfl)
