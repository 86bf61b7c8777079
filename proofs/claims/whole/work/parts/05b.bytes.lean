abbrev rm_BY_at : Room := { frames := 0, cells := 0, slots := 0, locals := 0 }
abbrev q_BY_at (D : va_G) (cI cB cL : ClassId) (a r : Nat) (f : Nat → Int32) (n : Nat) (i : Nat) : Array Value → State → Outcome → State → Prop := va_Qi (fun r9 (_ : Unit) => r9 = (tt_ch f n i)) (fun _ _ => True) (fun _ => False)
set_option maxHeartbeats 4000000 in
set_option maxRecDepth 100000 in
theorem c_BY_at (l : Launch) (D : va_G) (cI cB cL : ClassId) (a r : Nat) (f : Nat → Int32) (n : Nat) (i : Nat) (hn : n ≤ 16384) (hi : i < 2147483648) : Met l y_BY_at w_BY_at rm_BY_at (va_Pc [.ref a, .int (nI i)] (fun U => va_P D vwCl [(a, .inr (1, [.ref r, .int (nI n)])), (r, .inl (cB, 16384, .inl f))] U.heap ∧ va_K D vwCl (tt_ty cI cB cL) U)) (q_BY_at D cI cB cL a r f n i) 0 0 (fun _ => False) := by
  refine Met.ofW (cc := b_BY_at) (maxL := 2) (ret := (some .int)) (by decide) rfl ?_
  intro p e s m args below meth c s₁ B hml hv
  obtain ⟨rfl, hP, hK⟩ := hv
  have hx := B.exec
  have hb := B.bytes
  have hr := B.returns
  have hts := atoms_spec (ws := w_BY_at) B.pre
  have htT : ∀ w ∈ tt_T, w.before _ s = true := fun w h => hts w (List.mem_cons_of_mem _ h)
  have hown : s.vm.findClass R_BY = some m.cls := findClass_of_methodNamed B.named
  have hlocks := B.notSynchronized
  have hS : va_S (fun _ => False) s.heap s.heap [] := va_S.rf
  have hl := lv_entry ([.ref a, .int (nI i)]) (n := 2) (Nat.le_of_ble_eq_true rfl)
  rw [lg_entry_eq]
  generalize (lg_sl ([.ref a, .int (nI i)]) ++ List.replicate (2 - (lg_sl ([.ref a, .int (nI i)])).length) Slot.unset).toArray = ls at hl ⊢
  have hl : lv_has ls 2 [(0, .ref a), (1, .int (nI i))] := hl
  have hP : va_P D vwCl [(a, .inr (1, [.ref r, .int (nI n)])), (r, .inl (cB, 16384, .inl f))] s.heap := hP
  refine lv_iload_n hx hb d_BY_at_0 rfl (lv_at hl 1 rfl) ?_
  refine lv_if_lt (tgt := 25) hx hb d_BY_at_1 (by decide) (fun c_1 => ?_) (fun c_1 => ?_)
  · have c_1 : i < 0 := (nI_ltI (a := i) (b := 0) (by omega) (by omega)).mp c_1
    exact absurd c_1 (Nat.not_lt_zero _)
  · have c_1 : ¬ i < 0 := fun z9 => c_1 ((nI_ltI (a := i) (b := 0) (by omega) (by omega)).mpr z9)
    have c_1 := Nat.not_lt.mp c_1
    refine lv_iload_n hx hb d_BY_at_4 rfl (lv_at hl 1 rfl) ?_
    refine lv_aload_n hx hb d_BY_at_5 rfl (lv_at hl 0 rfl) ?_
    refine va_get (D := D) (ci := 1) (v := .int (nI n)) (C := R_BY) (T := F_BY) (N := 2) hx hb htT i_BY hown hK hP 0 rfl rfl 1 (by decide) (htT _ k_38) (fun _ h9 => h9) rfl d_BY_at_6 ?_
    refine lv_icmp_ge (tgt := 25) hx hb d_BY_at_9 (by decide) (fun c_9 => ?_) (fun c_9 => ?_)
    · have c_9 : n ≤ i := (nI_leI (a := n) (b := i) (by omega) (by omega)).mp c_9
      refine lv_iconst (v := (-1)) hx hb d_BY_at_25 (by decide) ?_
      have o_r : ((-1) : Int32) = (tt_ch f n i) := by first | contradiction | (simp [tt_ch, tt_b, c_1, Nat.not_lt.mpr c_1, c_9, Nat.not_lt.mpr c_9] <;> (intros; omega))
      exact W.iret (v := (-1)) hx hb hr (fun t ht hW => ⟨⟨_, (), rfl, o_r, trivial⟩, hS.F ht⟩) hS.2.2 d_BY_at_26
    · have c_9 : ¬ n ≤ i := fun z9 => c_9 ((nI_leI (a := n) (b := i) (by omega) (by omega)).mpr z9)
      have c_9 := Nat.not_le.mp c_9
      refine lv_aload_n hx hb d_BY_at_12 rfl (lv_at hl 0 rfl) ?_
      refine va_get (D := D) (ci := 1) (v := .ref r) (C := R_BY) (T := F_BY) (N := 2) hx hb htT i_BY hown hK hP 0 rfl rfl 0 (by decide) (htT _ k_37) (fun _ h9 => h9) rfl d_BY_at_13 ?_
      refine lv_iload_n hx hb d_BY_at_16 rfl (lv_at hl 1 rfl) ?_
      refine va_bald (D := D) hx hb hK hP 1 1 rfl rfl (vp_in_nI (by omega) (by omega)) d_BY_at_17 ?_
      refine tt_ti (show f (nI i).toNatClampNeg = f i from by rw [nI_clamp (by omega)]) ?_
      refine lv_sipush (v := 255) hx hb d_BY_at_18 (by decide) ?_
      refine lv_iand hx hb d_BY_at_21 ?_
      refine lv_goto (tgt := 26) hx hb d_BY_at_22 (by decide) ?_
      have o_r : ((f i) &&& 255) = (tt_ch f n i) := by first | contradiction | (simp [tt_ch, tt_b, c_1, Nat.not_lt.mpr c_1, c_9, Nat.not_le.mpr c_9] <;> (intros; omega))
      exact W.iret (v := (f i) &&& 255) hx hb hr (fun t ht hW => ⟨⟨_, (), rfl, o_r, trivial⟩, hS.F ht⟩) hS.2.2 d_BY_at_26
abbrev rm_BY_behindAll0 : Room := { frames := 2, cells := 0, slots := 0, locals := 41 }
abbrev q_BY_behindAll0 (D : va_G) (cI cB cL : ClassId) (a r : Nat) (f : Nat → Int32) (n : Nat) (i : Nat) : Array Value → State → Outcome → State → Prop := va_Qi (fun r9 (_ : Unit) => r9 = (nI (tt_sw (fun j => tt_dig (tt_ch f n j)) n i))) (fun _ _ => True) (fun _ => False)
set_option maxHeartbeats 4000000 in
set_option maxRecDepth 100000 in
theorem c_BY_behindAll0 (l : Launch) (D : va_G) (cI cB cL : ClassId) (a r : Nat) (f : Nat → Int32) (n : Nat) (i : Nat) (hn : n ≤ 16384) (hi : i < 1073741824) : Met l y_BY_behindAll w_BY_behindAll rm_BY_behindAll0 (va_Pc [.ref a, .int 0, .int (nI i)] (fun U => va_P D vwCl [(a, .inr (1, [.ref r, .int (nI n)])), (r, .inl (cB, 16384, .inl f))] U.heap ∧ va_K D vwCl (tt_ty cI cB cL) U)) (q_BY_behindAll0 D cI cB cL a r f n i) 0 0 (fun _ => False) := by
  refine Met.ofW (cc := b_BY_behindAll) (maxL := 4) (ret := (some .int)) (by decide) rfl ?_
  intro p e s m args below meth c s₁ B hml hv
  obtain ⟨rfl, hP, hK⟩ := hv
  have hx := B.exec
  have hb := B.bytes
  have hr := B.returns
  have hts := atoms_spec (ws := w_BY_behindAll) B.pre
  have htT : ∀ w ∈ tt_T, w.before _ s = true := fun w h => hts w (List.mem_cons_of_mem _ h)
  have hown : s.vm.findClass R_BY = some m.cls := findClass_of_methodNamed B.named
  have hlocks := B.notSynchronized
  have hS : va_S (fun _ => False) s.heap s.heap [] := va_S.rf
  have hl := lv_entry ([.ref a, .int 0, .int (nI i)]) (n := 4) (Nat.le_of_ble_eq_true rfl)
  rw [lg_entry_eq]
  generalize (lg_sl ([.ref a, .int 0, .int (nI i)]) ++ List.replicate (4 - (lg_sl ([.ref a, .int 0, .int (nI i)])).length) Slot.unset).toArray = ls at hl ⊢
  have hl : lv_has ls 4 [(0, .ref a), (1, .int 0), (2, .int (nI i))] := hl
  have hP : va_P D vwCl [(a, .inr (1, [.ref r, .int (nI n)])), (r, .inl (cB, 16384, .inl f))] s.heap := hP
  refine lv_iload_n hx hb d_BY_behindAll_0 rfl (lv_at hl 2 rfl) ?_
  refine lv_istore_n (lv' := [(3, .int (nI i)), (0, .ref a), (1, .int 0), (2, .int (nI i))]) hx hb d_BY_behindAll_1 rfl hl (by decide) rfl (fun ls hl => ?_)
  have cut_2 : ∀ (k9 : Nat) (j : Nat) (_ : n - j < k9) (hj : j ≤ max n i) (he : tt_sw (fun j => tt_dig (tt_ch f n j)) n j = tt_sw (fun j => tt_dig (tt_ch f n j)) n i) (H : Heap) (locs : List Loc), va_P D vwCl [(a, .inr (1, [.ref r, .int (nI n)])), (r, .inl (cB, 16384, .inl f))] H → va_S (fun _ => False) s.heap H locs → ∀ ls : Array Slot, lv_has ls 4 [(0, .ref a), (1, .int 0), (3, .int (nI j))] → W p l e (headSpec w_BY_behindAll rm_BY_behindAll0).room s m ([.ref a, .int 0, .int (nI i)] : List Value).toArray below meth c H locs 0 0 (MQ below (q_BY_behindAll0 D cI cB cL a r f n i) ([.ref a, .int 0, .int (nI i)] : List Value).toArray s 0 0 (fun _ => False)) (F0 m 2 ls []) := by
    intro k9
    induction k9 with
    | zero => intro j h9; exact absurd h9 (Nat.not_lt_zero _)
    | succ k9 ih_2 =>
      intro j h9 hj he H locs hP hS ls hl
      refine lv_iload_n hx hb d_BY_behindAll_2 rfl (lv_at hl 2 rfl) ?_
      refine lv_aload_n hx hb d_BY_behindAll_3 rfl (lv_at hl 0 rfl) ?_
      refine va_get (D := D) (ci := 1) (v := .int (nI n)) (C := R_BY) (T := F_BY) (N := 2) hx hb htT i_BY hown hK hP 0 rfl rfl 1 (by decide) (htT _ k_38) (fun _ h9 => h9) rfl d_BY_behindAll_4 ?_
      refine lv_icmp_ge (tgt := 28) hx hb d_BY_behindAll_7 (by decide) (fun c_7 => ?_) (fun c_7 => ?_)
      · have c_7 : n ≤ j := (nI_leI (a := n) (b := j) (by omega) (by omega)).mp c_7
        refine lv_iload_n hx hb d_BY_behindAll_28 rfl (lv_at hl 2 rfl) ?_
        have o_r : (nI j) = (nI (tt_sw (fun j => tt_dig (tt_ch f n j)) n i)) := by rw [← he, tt_sw_out (fun z => by first | omega | simp_all)]
        exact W.iret (v := nI j) hx hb hr (fun t ht hW => ⟨⟨_, (), rfl, o_r, trivial⟩, hS.F ht⟩) hS.2.2 d_BY_behindAll_29
      · have c_7 : ¬ n ≤ j := fun z9 => c_7 ((nI_leI (a := n) (b := j) (by omega) (by omega)).mpr z9)
        have c_7 := Nat.not_le.mp c_7
        refine lv_aload_n hx hb d_BY_behindAll_10 rfl (lv_at hl 0 rfl) ?_
        refine lv_iload_n hx hb d_BY_behindAll_11 rfl (lv_at hl 2 rfl) ?_
        refine tt_roI (va_runV (As := [.int (nI j)]) (rest := []) ⟨hx, hb, hml, hown, hts⟩ (c_BY_at l D cI cB cL a r f n j (by omega) (by omega)) (cwV 1 hts (tt_gV k_173 k_174 k_175 k_2 k_176) rfl rfl rfl hv_BY_at ⟨Nat.le_of_ble_eq_true rfl, Nat.le_of_ble_eq_true rfl⟩) (tt_ropreV (w := [(a, .inr (1, [.ref r, .int (nI n)])), (r, .inl (cB, 16384, .inl f))]) hK hP [0, 1] rfl (va_recv hK hP (ci := 1) (q0 := 0) rfl rfl)) rfl rfl hl.1 rfl (lv_room (Nat.le_of_ble_eq_true rfl)) d_BY_behindAll_12 ⟨Nat.zero_le _, Nat.zero_le _⟩) hS hP (fun H locs hP hS => ?_)
        refine lv_iload_n hx hb d_BY_behindAll_15 rfl (lv_at hl 1 rfl) ?_
        refine tt_roI (va_runS (As := [.int (tt_ch f n j), .int 0]) (rest := []) ⟨hx, hb, hml, hown, hts⟩ (c_CH_belongs0 l D cI cB cL (tt_ch f n j)) (va_cwS 2 hts (tt_gS2 k_222 k_223 k_14 k_224) rfl rfl rfl hv_CH_belongs.2 ⟨Nat.le_of_ble_eq_true rfl, Nat.le_of_ble_eq_true rfl⟩) (tt_ropreS (w := []) hK hP [] rfl) rfl rfl hl.1 rfl (lv_room (Nat.le_of_ble_eq_true rfl)) d_BY_behindAll_16 ⟨Nat.zero_le _, Nat.zero_le _⟩) hS hP (fun H locs hP hS => ?_)
        refine lv_if_eq (tgt := 28) hx hb d_BY_behindAll_19 (by decide) (fun c_19 => ?_) (fun c_19 => ?_)
        · have c_19 := tt_b0.mp c_19
          refine lv_iload_n hx hb d_BY_behindAll_28 rfl (lv_at hl 2 rfl) ?_
          have o_r : (nI j) = (nI (tt_sw (fun j => tt_dig (tt_ch f n j)) n i)) := by rw [← he, tt_sw_out (fun z => by first | omega | simp_all)]
          exact W.iret (v := nI j) hx hb hr (fun t ht hW => ⟨⟨_, (), rfl, o_r, trivial⟩, hS.F ht⟩) hS.2.2 d_BY_behindAll_29
        · have c_19 := tt_bn0.mp c_19
          refine lv_iinc (v := nI (j + 1)) (lv' := [(3, .int (nI (j + 1))), (0, .ref a), (1, .int 0)]) hx hb d_BY_behindAll_22 hl (k := 2) rfl (nI_add j 1) (by decide) rfl (fun ls hl => ?_)
          refine lv_goto (tgt := 2) hx hb d_BY_behindAll_25 (by decide) ?_
          exact ih_2 (j + 1) (by omega) (by omega) (by rw [tt_sw_in (by omega) c_19]; exact he) _ _ (hP.sub (ws' := [(a, .inr (1, [.ref r, .int (nI n)])), (r, .inl (cB, 16384, .inl f))]) [0, 1] rfl) hS ls (lv_sub hl [1, 2, 0] rfl)
  exact cut_2 _ i (Nat.lt_succ_self _) (by omega) (by rfl) _ _ (hP.sub (ws' := [(a, .inr (1, [.ref r, .int (nI n)])), (r, .inl (cB, 16384, .inl f))]) [0, 1] rfl) hS ls (lv_sub hl [1, 2, 0] rfl)
abbrev rm_BY_behindAll1 : Room := { frames := 2, cells := 0, slots := 0, locals := 41 }
abbrev q_BY_behindAll1 (D : va_G) (cI cB cL : ClassId) (a r : Nat) (f : Nat → Int32) (n : Nat) (i : Nat) : Array Value → State → Outcome → State → Prop := va_Qi (fun r9 (_ : Unit) => r9 = (nI (tt_sw (fun j => tt_hx (tt_ch f n j)) n i))) (fun _ _ => True) (fun _ => False)
set_option maxHeartbeats 4000000 in
set_option maxRecDepth 100000 in
theorem c_BY_behindAll1 (l : Launch) (D : va_G) (cI cB cL : ClassId) (a r : Nat) (f : Nat → Int32) (n : Nat) (i : Nat) (hn : n ≤ 16384) (hi : i < 1073741824) : Met l y_BY_behindAll w_BY_behindAll rm_BY_behindAll1 (va_Pc [.ref a, .int 1, .int (nI i)] (fun U => va_P D vwCl [(a, .inr (1, [.ref r, .int (nI n)])), (r, .inl (cB, 16384, .inl f))] U.heap ∧ va_K D vwCl (tt_ty cI cB cL) U)) (q_BY_behindAll1 D cI cB cL a r f n i) 0 0 (fun _ => False) := by
  refine Met.ofW (cc := b_BY_behindAll) (maxL := 4) (ret := (some .int)) (by decide) rfl ?_
  intro p e s m args below meth c s₁ B hml hv
  obtain ⟨rfl, hP, hK⟩ := hv
  have hx := B.exec
  have hb := B.bytes
  have hr := B.returns
  have hts := atoms_spec (ws := w_BY_behindAll) B.pre
  have htT : ∀ w ∈ tt_T, w.before _ s = true := fun w h => hts w (List.mem_cons_of_mem _ h)
  have hown : s.vm.findClass R_BY = some m.cls := findClass_of_methodNamed B.named
  have hlocks := B.notSynchronized
  have hS : va_S (fun _ => False) s.heap s.heap [] := va_S.rf
  have hl := lv_entry ([.ref a, .int 1, .int (nI i)]) (n := 4) (Nat.le_of_ble_eq_true rfl)
  rw [lg_entry_eq]
  generalize (lg_sl ([.ref a, .int 1, .int (nI i)]) ++ List.replicate (4 - (lg_sl ([.ref a, .int 1, .int (nI i)])).length) Slot.unset).toArray = ls at hl ⊢
  have hl : lv_has ls 4 [(0, .ref a), (1, .int 1), (2, .int (nI i))] := hl
  have hP : va_P D vwCl [(a, .inr (1, [.ref r, .int (nI n)])), (r, .inl (cB, 16384, .inl f))] s.heap := hP
  refine lv_iload_n hx hb d_BY_behindAll_0 rfl (lv_at hl 2 rfl) ?_
  refine lv_istore_n (lv' := [(3, .int (nI i)), (0, .ref a), (1, .int 1), (2, .int (nI i))]) hx hb d_BY_behindAll_1 rfl hl (by decide) rfl (fun ls hl => ?_)
  have cut_2 : ∀ (k9 : Nat) (j : Nat) (_ : n - j < k9) (hj : j ≤ max n i) (he : tt_sw (fun j => tt_hx (tt_ch f n j)) n j = tt_sw (fun j => tt_hx (tt_ch f n j)) n i) (H : Heap) (locs : List Loc), va_P D vwCl [(a, .inr (1, [.ref r, .int (nI n)])), (r, .inl (cB, 16384, .inl f))] H → va_S (fun _ => False) s.heap H locs → ∀ ls : Array Slot, lv_has ls 4 [(0, .ref a), (1, .int 1), (3, .int (nI j))] → W p l e (headSpec w_BY_behindAll rm_BY_behindAll1).room s m ([.ref a, .int 1, .int (nI i)] : List Value).toArray below meth c H locs 0 0 (MQ below (q_BY_behindAll1 D cI cB cL a r f n i) ([.ref a, .int 1, .int (nI i)] : List Value).toArray s 0 0 (fun _ => False)) (F0 m 2 ls []) := by
    intro k9
    induction k9 with
    | zero => intro j h9; exact absurd h9 (Nat.not_lt_zero _)
    | succ k9 ih_2 =>
      intro j h9 hj he H locs hP hS ls hl
      refine lv_iload_n hx hb d_BY_behindAll_2 rfl (lv_at hl 2 rfl) ?_
      refine lv_aload_n hx hb d_BY_behindAll_3 rfl (lv_at hl 0 rfl) ?_
      refine va_get (D := D) (ci := 1) (v := .int (nI n)) (C := R_BY) (T := F_BY) (N := 2) hx hb htT i_BY hown hK hP 0 rfl rfl 1 (by decide) (htT _ k_38) (fun _ h9 => h9) rfl d_BY_behindAll_4 ?_
      refine lv_icmp_ge (tgt := 28) hx hb d_BY_behindAll_7 (by decide) (fun c_7 => ?_) (fun c_7 => ?_)
      · have c_7 : n ≤ j := (nI_leI (a := n) (b := j) (by omega) (by omega)).mp c_7
        refine lv_iload_n hx hb d_BY_behindAll_28 rfl (lv_at hl 2 rfl) ?_
        have o_r : (nI j) = (nI (tt_sw (fun j => tt_hx (tt_ch f n j)) n i)) := by rw [← he, tt_sw_out (fun z => by first | omega | simp_all)]
        exact W.iret (v := nI j) hx hb hr (fun t ht hW => ⟨⟨_, (), rfl, o_r, trivial⟩, hS.F ht⟩) hS.2.2 d_BY_behindAll_29
      · have c_7 : ¬ n ≤ j := fun z9 => c_7 ((nI_leI (a := n) (b := j) (by omega) (by omega)).mpr z9)
        have c_7 := Nat.not_le.mp c_7
        refine lv_aload_n hx hb d_BY_behindAll_10 rfl (lv_at hl 0 rfl) ?_
        refine lv_iload_n hx hb d_BY_behindAll_11 rfl (lv_at hl 2 rfl) ?_
        refine tt_roI (va_runV (As := [.int (nI j)]) (rest := []) ⟨hx, hb, hml, hown, hts⟩ (c_BY_at l D cI cB cL a r f n j (by omega) (by omega)) (cwV 1 hts (tt_gV k_173 k_174 k_175 k_2 k_176) rfl rfl rfl hv_BY_at ⟨Nat.le_of_ble_eq_true rfl, Nat.le_of_ble_eq_true rfl⟩) (tt_ropreV (w := [(a, .inr (1, [.ref r, .int (nI n)])), (r, .inl (cB, 16384, .inl f))]) hK hP [0, 1] rfl (va_recv hK hP (ci := 1) (q0 := 0) rfl rfl)) rfl rfl hl.1 rfl (lv_room (Nat.le_of_ble_eq_true rfl)) d_BY_behindAll_12 ⟨Nat.zero_le _, Nat.zero_le _⟩) hS hP (fun H locs hP hS => ?_)
        refine lv_iload_n hx hb d_BY_behindAll_15 rfl (lv_at hl 1 rfl) ?_
        refine tt_roI (va_runS (As := [.int (tt_ch f n j), .int 1]) (rest := []) ⟨hx, hb, hml, hown, hts⟩ (c_CH_belongs1 l D cI cB cL (tt_ch f n j)) (va_cwS 2 hts (tt_gS2 k_222 k_223 k_14 k_224) rfl rfl rfl hv_CH_belongs.2 ⟨Nat.le_of_ble_eq_true rfl, Nat.le_of_ble_eq_true rfl⟩) (tt_ropreS (w := []) hK hP [] rfl) rfl rfl hl.1 rfl (lv_room (Nat.le_of_ble_eq_true rfl)) d_BY_behindAll_16 ⟨Nat.zero_le _, Nat.zero_le _⟩) hS hP (fun H locs hP hS => ?_)
        refine lv_if_eq (tgt := 28) hx hb d_BY_behindAll_19 (by decide) (fun c_19 => ?_) (fun c_19 => ?_)
        · have c_19 := tt_b0.mp c_19
          refine lv_iload_n hx hb d_BY_behindAll_28 rfl (lv_at hl 2 rfl) ?_
          have o_r : (nI j) = (nI (tt_sw (fun j => tt_hx (tt_ch f n j)) n i)) := by rw [← he, tt_sw_out (fun z => by first | omega | simp_all)]
          exact W.iret (v := nI j) hx hb hr (fun t ht hW => ⟨⟨_, (), rfl, o_r, trivial⟩, hS.F ht⟩) hS.2.2 d_BY_behindAll_29
        · have c_19 := tt_bn0.mp c_19
          refine lv_iinc (v := nI (j + 1)) (lv' := [(3, .int (nI (j + 1))), (0, .ref a), (1, .int 1)]) hx hb d_BY_behindAll_22 hl (k := 2) rfl (nI_add j 1) (by decide) rfl (fun ls hl => ?_)
          refine lv_goto (tgt := 2) hx hb d_BY_behindAll_25 (by decide) ?_
          exact ih_2 (j + 1) (by omega) (by omega) (by rw [tt_sw_in (by omega) c_19]; exact he) _ _ (hP.sub (ws' := [(a, .inr (1, [.ref r, .int (nI n)])), (r, .inl (cB, 16384, .inl f))]) [0, 1] rfl) hS ls (lv_sub hl [1, 2, 0] rfl)
  exact cut_2 _ i (Nat.lt_succ_self _) (by omega) (by rfl) _ _ (hP.sub (ws' := [(a, .inr (1, [.ref r, .int (nI n)])), (r, .inl (cB, 16384, .inl f))]) [0, 1] rfl) hS ls (lv_sub hl [1, 2, 0] rfl)
abbrev rm_BY_behindAll2 : Room := { frames := 2, cells := 0, slots := 0, locals := 41 }
abbrev q_BY_behindAll2 (D : va_G) (cI cB cL : ClassId) (a r : Nat) (f : Nat → Int32) (n : Nat) (i : Nat) : Array Value → State → Outcome → State → Prop := va_Qi (fun r9 (_ : Unit) => r9 = (nI (tt_sw (fun j => tt_wd (tt_ch f n j)) n i))) (fun _ _ => True) (fun _ => False)
set_option maxHeartbeats 4000000 in
set_option maxRecDepth 100000 in
theorem c_BY_behindAll2 (l : Launch) (D : va_G) (cI cB cL : ClassId) (a r : Nat) (f : Nat → Int32) (n : Nat) (i : Nat) (hn : n ≤ 16384) (hi : i < 1073741824) : Met l y_BY_behindAll w_BY_behindAll rm_BY_behindAll2 (va_Pc [.ref a, .int 2, .int (nI i)] (fun U => va_P D vwCl [(a, .inr (1, [.ref r, .int (nI n)])), (r, .inl (cB, 16384, .inl f))] U.heap ∧ va_K D vwCl (tt_ty cI cB cL) U)) (q_BY_behindAll2 D cI cB cL a r f n i) 0 0 (fun _ => False) := by
  refine Met.ofW (cc := b_BY_behindAll) (maxL := 4) (ret := (some .int)) (by decide) rfl ?_
  intro p e s m args below meth c s₁ B hml hv
  obtain ⟨rfl, hP, hK⟩ := hv
  have hx := B.exec
  have hb := B.bytes
  have hr := B.returns
  have hts := atoms_spec (ws := w_BY_behindAll) B.pre
  have htT : ∀ w ∈ tt_T, w.before _ s = true := fun w h => hts w (List.mem_cons_of_mem _ h)
  have hown : s.vm.findClass R_BY = some m.cls := findClass_of_methodNamed B.named
  have hlocks := B.notSynchronized
  have hS : va_S (fun _ => False) s.heap s.heap [] := va_S.rf
  have hl := lv_entry ([.ref a, .int 2, .int (nI i)]) (n := 4) (Nat.le_of_ble_eq_true rfl)
  rw [lg_entry_eq]
  generalize (lg_sl ([.ref a, .int 2, .int (nI i)]) ++ List.replicate (4 - (lg_sl ([.ref a, .int 2, .int (nI i)])).length) Slot.unset).toArray = ls at hl ⊢
  have hl : lv_has ls 4 [(0, .ref a), (1, .int 2), (2, .int (nI i))] := hl
  have hP : va_P D vwCl [(a, .inr (1, [.ref r, .int (nI n)])), (r, .inl (cB, 16384, .inl f))] s.heap := hP
  refine lv_iload_n hx hb d_BY_behindAll_0 rfl (lv_at hl 2 rfl) ?_
  refine lv_istore_n (lv' := [(3, .int (nI i)), (0, .ref a), (1, .int 2), (2, .int (nI i))]) hx hb d_BY_behindAll_1 rfl hl (by decide) rfl (fun ls hl => ?_)
  have cut_2 : ∀ (k9 : Nat) (j : Nat) (_ : n - j < k9) (hj : j ≤ max n i) (he : tt_sw (fun j => tt_wd (tt_ch f n j)) n j = tt_sw (fun j => tt_wd (tt_ch f n j)) n i) (H : Heap) (locs : List Loc), va_P D vwCl [(a, .inr (1, [.ref r, .int (nI n)])), (r, .inl (cB, 16384, .inl f))] H → va_S (fun _ => False) s.heap H locs → ∀ ls : Array Slot, lv_has ls 4 [(0, .ref a), (1, .int 2), (3, .int (nI j))] → W p l e (headSpec w_BY_behindAll rm_BY_behindAll2).room s m ([.ref a, .int 2, .int (nI i)] : List Value).toArray below meth c H locs 0 0 (MQ below (q_BY_behindAll2 D cI cB cL a r f n i) ([.ref a, .int 2, .int (nI i)] : List Value).toArray s 0 0 (fun _ => False)) (F0 m 2 ls []) := by
    intro k9
    induction k9 with
    | zero => intro j h9; exact absurd h9 (Nat.not_lt_zero _)
    | succ k9 ih_2 =>
      intro j h9 hj he H locs hP hS ls hl
      refine lv_iload_n hx hb d_BY_behindAll_2 rfl (lv_at hl 2 rfl) ?_
      refine lv_aload_n hx hb d_BY_behindAll_3 rfl (lv_at hl 0 rfl) ?_
      refine va_get (D := D) (ci := 1) (v := .int (nI n)) (C := R_BY) (T := F_BY) (N := 2) hx hb htT i_BY hown hK hP 0 rfl rfl 1 (by decide) (htT _ k_38) (fun _ h9 => h9) rfl d_BY_behindAll_4 ?_
      refine lv_icmp_ge (tgt := 28) hx hb d_BY_behindAll_7 (by decide) (fun c_7 => ?_) (fun c_7 => ?_)
      · have c_7 : n ≤ j := (nI_leI (a := n) (b := j) (by omega) (by omega)).mp c_7
        refine lv_iload_n hx hb d_BY_behindAll_28 rfl (lv_at hl 2 rfl) ?_
        have o_r : (nI j) = (nI (tt_sw (fun j => tt_wd (tt_ch f n j)) n i)) := by rw [← he, tt_sw_out (fun z => by first | omega | simp_all)]
        exact W.iret (v := nI j) hx hb hr (fun t ht hW => ⟨⟨_, (), rfl, o_r, trivial⟩, hS.F ht⟩) hS.2.2 d_BY_behindAll_29
      · have c_7 : ¬ n ≤ j := fun z9 => c_7 ((nI_leI (a := n) (b := j) (by omega) (by omega)).mpr z9)
        have c_7 := Nat.not_le.mp c_7
        refine lv_aload_n hx hb d_BY_behindAll_10 rfl (lv_at hl 0 rfl) ?_
        refine lv_iload_n hx hb d_BY_behindAll_11 rfl (lv_at hl 2 rfl) ?_
        refine tt_roI (va_runV (As := [.int (nI j)]) (rest := []) ⟨hx, hb, hml, hown, hts⟩ (c_BY_at l D cI cB cL a r f n j (by omega) (by omega)) (cwV 1 hts (tt_gV k_173 k_174 k_175 k_2 k_176) rfl rfl rfl hv_BY_at ⟨Nat.le_of_ble_eq_true rfl, Nat.le_of_ble_eq_true rfl⟩) (tt_ropreV (w := [(a, .inr (1, [.ref r, .int (nI n)])), (r, .inl (cB, 16384, .inl f))]) hK hP [0, 1] rfl (va_recv hK hP (ci := 1) (q0 := 0) rfl rfl)) rfl rfl hl.1 rfl (lv_room (Nat.le_of_ble_eq_true rfl)) d_BY_behindAll_12 ⟨Nat.zero_le _, Nat.zero_le _⟩) hS hP (fun H locs hP hS => ?_)
        refine lv_iload_n hx hb d_BY_behindAll_15 rfl (lv_at hl 1 rfl) ?_
        refine tt_roI (va_runS (As := [.int (tt_ch f n j), .int 2]) (rest := []) ⟨hx, hb, hml, hown, hts⟩ (c_CH_belongs2 l D cI cB cL (tt_ch f n j)) (va_cwS 2 hts (tt_gS2 k_222 k_223 k_14 k_224) rfl rfl rfl hv_CH_belongs.2 ⟨Nat.le_of_ble_eq_true rfl, Nat.le_of_ble_eq_true rfl⟩) (tt_ropreS (w := []) hK hP [] rfl) rfl rfl hl.1 rfl (lv_room (Nat.le_of_ble_eq_true rfl)) d_BY_behindAll_16 ⟨Nat.zero_le _, Nat.zero_le _⟩) hS hP (fun H locs hP hS => ?_)
        refine lv_if_eq (tgt := 28) hx hb d_BY_behindAll_19 (by decide) (fun c_19 => ?_) (fun c_19 => ?_)
        · have c_19 := tt_b0.mp c_19
          refine lv_iload_n hx hb d_BY_behindAll_28 rfl (lv_at hl 2 rfl) ?_
          have o_r : (nI j) = (nI (tt_sw (fun j => tt_wd (tt_ch f n j)) n i)) := by rw [← he, tt_sw_out (fun z => by first | omega | simp_all)]
          exact W.iret (v := nI j) hx hb hr (fun t ht hW => ⟨⟨_, (), rfl, o_r, trivial⟩, hS.F ht⟩) hS.2.2 d_BY_behindAll_29
        · have c_19 := tt_bn0.mp c_19
          refine lv_iinc (v := nI (j + 1)) (lv' := [(3, .int (nI (j + 1))), (0, .ref a), (1, .int 2)]) hx hb d_BY_behindAll_22 hl (k := 2) rfl (nI_add j 1) (by decide) rfl (fun ls hl => ?_)
          refine lv_goto (tgt := 2) hx hb d_BY_behindAll_25 (by decide) ?_
          exact ih_2 (j + 1) (by omega) (by omega) (by rw [tt_sw_in (by omega) c_19]; exact he) _ _ (hP.sub (ws' := [(a, .inr (1, [.ref r, .int (nI n)])), (r, .inl (cB, 16384, .inl f))]) [0, 1] rfl) hS ls (lv_sub hl [1, 2, 0] rfl)
  exact cut_2 _ i (Nat.lt_succ_self _) (by omega) (by rfl) _ _ (hP.sub (ws' := [(a, .inr (1, [.ref r, .int (nI n)])), (r, .inl (cB, 16384, .inl f))]) [0, 1] rfl) hS ls (lv_sub hl [1, 2, 0] rfl)
