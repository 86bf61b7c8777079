abbrev rm_TM_beginWith : Room := { frames := 2, cells := 0, slots := 0, locals := 81 }
abbrev q_TM_beginWith (D : va_G) (cI cB cL : ClassId) (ad : Nat → Nat) (f : Nat → Int32) (tn : Nat) (n : Nat) (a r : Nat) (g : Nat → Int32) (cn : Nat) (A : Nat → Prop) : Array Value → State → Outcome → State → Prop := va_Qv (fun _ => True) (fun (_ : Unit) t => va_P D vwCl [(ad 0, .inr (5, [.ref (ad 1), .ref (ad 3), .ref (ad 4), .ref (ad 5), .ref (ad 6), .ref (ad 7), .ref (ad 8), .ref (ad 9), .ref (ad 10), .int (nI 0)])), (ad 1, .inr (1, [.ref (ad 2), .int (nI cn)])), (ad 2, .inl (cB, 16384, .inl (va_cpy g f 0 0 cn))), (a, .inr (1, [.ref r, .int (nI cn)])), (r, .inl (cB, 16384, .inl g))] t.heap ∧ va_D A [(ad 0, .inr (5, [.ref (ad 1), .ref (ad 3), .ref (ad 4), .ref (ad 5), .ref (ad 6), .ref (ad 7), .ref (ad 8), .ref (ad 9), .ref (ad 10), .int (nI 0)])), (ad 1, .inr (1, [.ref (ad 2), .int (nI cn)])), (ad 2, .inl (cB, 16384, .inl (va_cpy g f 0 0 cn))), (a, .inr (1, [.ref r, .int (nI cn)])), (r, .inl (cB, 16384, .inl g))]) A
set_option maxHeartbeats 4000000 in
set_option maxRecDepth 100000 in
theorem c_TM_beginWith (l : Launch) (D : va_G) (cI cB cL : ClassId) (ad : Nat → Nat) (f : Nat → Int32) (tn : Nat) (n : Nat) (a r : Nat) (g : Nat → Int32) (cn : Nat) (hc : cn ≤ 16384) (hf : ∀ k, (g k).toInt8.toInt32 = g k) (sz : Nat) : Met l y_TM_beginWith w_TM_beginWith rm_TM_beginWith (va_Pc [.ref (ad 0), .ref a] (fun U => U.heap.size = sz ∧ va_P D vwCl [(ad 0, .inr (5, [.ref (ad 1), .ref (ad 3), .ref (ad 4), .ref (ad 5), .ref (ad 6), .ref (ad 7), .ref (ad 8), .ref (ad 9), .ref (ad 10), .int (nI n)])), (ad 1, .inr (1, [.ref (ad 2), .int (nI tn)])), (ad 2, .inl (cB, 16384, .inl f)), (a, .inr (1, [.ref r, .int (nI cn)])), (r, .inl (cB, 16384, .inl g))] U.heap ∧ va_K D vwCl (tt_ty cI cB cL) U ∧ va_D (fun _ => True) [(ad 0, .inr (5, [.ref (ad 1), .ref (ad 3), .ref (ad 4), .ref (ad 5), .ref (ad 6), .ref (ad 7), .ref (ad 8), .ref (ad 9), .ref (ad 10), .int (nI n)])), (ad 1, .inr (1, [.ref (ad 2), .int (nI tn)])), (ad 2, .inl (cB, 16384, .inl f)), (a, .inr (1, [.ref r, .int (nI cn)])), (r, .inl (cB, 16384, .inl g))])) (q_TM_beginWith D cI cB cL ad f tn n a r g cn (va_A [(ad 0, .inr (5, [.ref (ad 1), .ref (ad 3), .ref (ad 4), .ref (ad 5), .ref (ad 6), .ref (ad 7), .ref (ad 8), .ref (ad 9), .ref (ad 10), .int (nI n)])), (ad 1, .inr (1, [.ref (ad 2), .int (nI tn)])), (ad 2, .inl (cB, 16384, .inl f)), (a, .inr (1, [.ref r, .int (nI cn)])), (r, .inl (cB, 16384, .inl g))] sz)) 0 0 (va_A [(ad 0, .inr (5, [.ref (ad 1), .ref (ad 3), .ref (ad 4), .ref (ad 5), .ref (ad 6), .ref (ad 7), .ref (ad 8), .ref (ad 9), .ref (ad 10), .int (nI n)])), (ad 1, .inr (1, [.ref (ad 2), .int (nI tn)])), (ad 2, .inl (cB, 16384, .inl f)), (a, .inr (1, [.ref r, .int (nI cn)])), (r, .inl (cB, 16384, .inl g))] sz) := by
  refine Met.ofW (cc := b_TM_beginWith) (maxL := 2) (ret := none) (by decide) rfl ?_
  intro p e s m args below meth c s₁ B hml hv
  obtain ⟨rfl, hsz, hP, hK, hD0⟩ := hv
  have hx := B.exec
  have hb := B.bytes
  have hr := B.returns
  have hts := atoms_spec (ws := w_TM_beginWith) B.pre
  have htT : ∀ w ∈ tt_T, w.before _ s = true := fun w h => hts w (List.mem_cons_of_mem _ h)
  have hown : s.vm.findClass R_TM = some m.cls := findClass_of_methodNamed B.named
  have hlocks := B.notSynchronized
  subst hsz
  have hD := hD0.self (sz := s.heap.size)
  generalize hAe : va_A [(ad 0, .inr (5, [.ref (ad 1), .ref (ad 3), .ref (ad 4), .ref (ad 5), .ref (ad 6), .ref (ad 7), .ref (ad 8), .ref (ad 9), .ref (ad 10), .int (nI n)])), (ad 1, .inr (1, [.ref (ad 2), .int (nI tn)])), (ad 2, .inl (cB, 16384, .inl f)), (a, .inr (1, [.ref r, .int (nI cn)])), (r, .inl (cB, 16384, .inl g))] s.heap.size = A at hD ⊢
  have hA : ∀ q : Nat, s.heap.size ≤ q → A q := fun q h => by rw [← hAe]; exact Or.inr h
  have hS : va_S A s.heap s.heap [] := va_S.rf
  have hl := lv_entry ([.ref (ad 0), .ref a]) (n := 2) (Nat.le_of_ble_eq_true rfl)
  rw [lg_entry_eq]
  generalize (lg_sl ([.ref (ad 0), .ref a]) ++ List.replicate (2 - (lg_sl ([.ref (ad 0), .ref a])).length) Slot.unset).toArray = ls at hl ⊢
  have hl : lv_has ls 2 [(0, .ref (ad 0)), (1, .ref a)] := hl
  have hP : va_P D vwCl [(ad 0, .inr (5, [.ref (ad 1), .ref (ad 3), .ref (ad 4), .ref (ad 5), .ref (ad 6), .ref (ad 7), .ref (ad 8), .ref (ad 9), .ref (ad 10), .int (nI n)])), (ad 1, .inr (1, [.ref (ad 2), .int (nI tn)])), (ad 2, .inl (cB, 16384, .inl f)), (a, .inr (1, [.ref r, .int (nI cn)])), (r, .inl (cB, 16384, .inl g))] s.heap := hP
  refine lv_aload_n hx hb d_TM_beginWith_0 rfl (lv_at hl 0 rfl) ?_
  refine va_get (D := D) (ci := 5) (v := .ref (ad 1)) (C := R_TM) (T := F_TM) (N := 10) hx hb htT i_TM hown hK hP 0 rfl rfl 0 (by decide) (htT _ k_56) (fun _ h9 => h9) rfl d_TM_beginWith_1 ?_
  refine lv_aload_n hx hb d_TM_beginWith_4 rfl (lv_at hl 1 rfl) ?_
  refine tt_muV (wr := [(ad 0, .inr (5, [.ref (ad 1), .ref (ad 3), .ref (ad 4), .ref (ad 5), .ref (ad 6), .ref (ad 7), .ref (ad 8), .ref (ad 9), .ref (ad 10), .int (nI n)]))]) (va_runV (As := [.ref a]) (rest := []) ⟨hx, hb, hml, hown, hts⟩ (c_BY_copyFrom l D cI cB cL (ad 1) (ad 2) f tn a r g cn (by omega) (by exact hf) _) (cwV 1 hts (tt_gV k_185 k_186 k_187 k_2 k_188) rfl rfl rfl hv_BY_copyFrom ⟨Nat.le_of_ble_eq_true rfl, Nat.le_of_ble_eq_true rfl⟩) (tt_mupreV (w := [(ad 1, .inr (1, [.ref (ad 2), .int (nI tn)])), (ad 2, .inl (cB, 16384, .inl f)), (a, .inr (1, [.ref r, .int (nI cn)])), (r, .inl (cB, 16384, .inl g))]) hK hP hD [1, 2, 3, 4] rfl (by decide) rfl (va_recv hK hP (ci := 1) (q0 := 1) rfl rfl)) rfl rfl hl.1 rfl (lv_room (Nat.le_of_ble_eq_true rfl)) d_TM_beginWith_5 ⟨Nat.zero_le _, Nat.zero_le _⟩) hS hP hD hA [1, 2, 3, 4] [0] rfl rfl (by decide) (by decide) (fun H locs hP hD hS => ?_)
  have hP : va_P D vwCl [(ad 0, .inr (5, [.ref (ad 1), .ref (ad 3), .ref (ad 4), .ref (ad 5), .ref (ad 6), .ref (ad 7), .ref (ad 8), .ref (ad 9), .ref (ad 10), .int (nI n)])), (ad 1, .inr (1, [.ref (ad 2), .int (nI cn)])), (ad 2, .inl (cB, 16384, .inl (va_cpy g f 0 0 cn))), (a, .inr (1, [.ref r, .int (nI cn)])), (r, .inl (cB, 16384, .inl g))] H := hP
  have hD : va_D A [(ad 0, .inr (5, [.ref (ad 1), .ref (ad 3), .ref (ad 4), .ref (ad 5), .ref (ad 6), .ref (ad 7), .ref (ad 8), .ref (ad 9), .ref (ad 10), .int (nI n)])), (ad 1, .inr (1, [.ref (ad 2), .int (nI cn)])), (ad 2, .inl (cB, 16384, .inl (va_cpy g f 0 0 cn))), (a, .inr (1, [.ref r, .int (nI cn)])), (r, .inl (cB, 16384, .inl g))] := hD
  refine lv_aload_n hx hb d_TM_beginWith_8 rfl (lv_at hl 0 rfl) ?_
  refine lv_iconst (v := 0) hx hb d_TM_beginWith_9 (by decide) ?_
  refine va_put (D := D) (ci := 5) (v := .int 0) (ty := .int) (C := R_TM) (T := F_TM) (N := 10) hx hb htT i_TM t_TM t_TM_ok n_TM hown hK hP hD hS 0 rfl rfl 9 (by decide) (htT _ k_77) (fun _ h9 => h9) rfl (by decide +kernel) rfl rfl (Nat.le_of_ble_eq_true rfl) d_TM_beginWith_10 (fun H locs hP hD hS => ?_)
  have hP : va_P D vwCl [(ad 0, .inr (5, [.ref (ad 1), .ref (ad 3), .ref (ad 4), .ref (ad 5), .ref (ad 6), .ref (ad 7), .ref (ad 8), .ref (ad 9), .ref (ad 10), .int 0])), (ad 1, .inr (1, [.ref (ad 2), .int (nI cn)])), (ad 2, .inl (cB, 16384, .inl (va_cpy g f 0 0 cn))), (a, .inr (1, [.ref r, .int (nI cn)])), (r, .inl (cB, 16384, .inl g))] H := hP
  have hD : va_D A [(ad 0, .inr (5, [.ref (ad 1), .ref (ad 3), .ref (ad 4), .ref (ad 5), .ref (ad 6), .ref (ad 7), .ref (ad 8), .ref (ad 9), .ref (ad 10), .int 0])), (ad 1, .inr (1, [.ref (ad 2), .int (nI cn)])), (ad 2, .inl (cB, 16384, .inl (va_cpy g f 0 0 cn))), (a, .inr (1, [.ref r, .int (nI cn)])), (r, .inl (cB, 16384, .inl g))] := hD
  have hP9 : va_P D vwCl [(ad 0, .inr (5, [.ref (ad 1), .ref (ad 3), .ref (ad 4), .ref (ad 5), .ref (ad 6), .ref (ad 7), .ref (ad 8), .ref (ad 9), .ref (ad 10), .int (nI 0)])), (ad 1, .inr (1, [.ref (ad 2), .int (nI cn)])), (ad 2, .inl (cB, 16384, .inl (va_cpy g f 0 0 cn))), (a, .inr (1, [.ref r, .int (nI cn)])), (r, .inl (cB, 16384, .inl g))] H := hP.sub [0, 1, 2, 3, 4] rfl
  have hD9 : va_D A [(ad 0, .inr (5, [.ref (ad 1), .ref (ad 3), .ref (ad 4), .ref (ad 5), .ref (ad 6), .ref (ad 7), .ref (ad 8), .ref (ad 9), .ref (ad 10), .int (nI 0)])), (ad 1, .inr (1, [.ref (ad 2), .int (nI cn)])), (ad 2, .inl (cB, 16384, .inl (va_cpy g f 0 0 cn))), (a, .inr (1, [.ref r, .int (nI cn)])), (r, .inl (cB, 16384, .inl g))] := hD.sub [0, 1, 2, 3, 4] (by decide) rfl
  exact W.vret hx hb hr (fun t ht hW => ⟨⟨(), rfl, trivial, by rw [ht]; exact hP9, hD9⟩, hS.F ht⟩) hS.2.2 d_TM_beginWith_13
abbrev rm_TT_count : Room := { frames := 0, cells := 0, slots := 0, locals := 0 }
abbrev q_TT_count (D : va_G) (cI cB cL : ClassId) (ad : Nat → Nat) (n : Nat) : Array Value → State → Outcome → State → Prop := va_Qi (fun r9 (_ : Unit) => r9 = (nI n)) (fun _ _ => True) (fun _ => False)
set_option maxHeartbeats 4000000 in
set_option maxRecDepth 100000 in
theorem c_TT_count (l : Launch) (D : va_G) (cI cB cL : ClassId) (ad : Nat → Nat) (n : Nat) : Met l y_TT_count w_TT_count rm_TT_count (va_Pc [.ref (ad 13)] (fun U => va_P D vwCl [(ad 13, .inr (0, [.ref (ad 14), .ref (ad 0), .ref (ad 11), .ref (ad 16)])), (ad 0, .inr (5, [.ref (ad 1), .ref (ad 3), .ref (ad 4), .ref (ad 5), .ref (ad 6), .ref (ad 7), .ref (ad 8), .ref (ad 9), .ref (ad 10), .int (nI n)]))] U.heap ∧ va_K D vwCl (tt_ty cI cB cL) U)) (q_TT_count D cI cB cL ad n) 0 0 (fun _ => False) := by
  refine Met.ofW (cc := b_TT_count) (maxL := 1) (ret := (some .int)) (by decide) rfl ?_
  intro p e s m args below meth c s₁ B hml hv
  obtain ⟨rfl, hP, hK⟩ := hv
  have hx := B.exec
  have hb := B.bytes
  have hr := B.returns
  have hts := atoms_spec (ws := w_TT_count) B.pre
  have htT : ∀ w ∈ tt_T, w.before _ s = true := fun w h => hts w (List.mem_cons_of_mem _ h)
  have hown : s.vm.findClass R_TT = some m.cls := findClass_of_methodNamed B.named
  have hlocks := B.notSynchronized
  have hS : va_S (fun _ => False) s.heap s.heap [] := va_S.rf
  have hl := lv_entry ([.ref (ad 13)]) (n := 1) (Nat.le_of_ble_eq_true rfl)
  rw [lg_entry_eq]
  generalize (lg_sl ([.ref (ad 13)]) ++ List.replicate (1 - (lg_sl ([.ref (ad 13)])).length) Slot.unset).toArray = ls at hl ⊢
  have hl : lv_has ls 1 [(0, .ref (ad 13))] := hl
  have hP : va_P D vwCl [(ad 13, .inr (0, [.ref (ad 14), .ref (ad 0), .ref (ad 11), .ref (ad 16)])), (ad 0, .inr (5, [.ref (ad 1), .ref (ad 3), .ref (ad 4), .ref (ad 5), .ref (ad 6), .ref (ad 7), .ref (ad 8), .ref (ad 9), .ref (ad 10), .int (nI n)]))] s.heap := hP
  refine lv_aload_n hx hb d_TT_count_0 rfl (lv_at hl 0 rfl) ?_
  refine va_get (D := D) (ci := 0) (v := .ref (ad 0)) (C := R_TT) (T := F_TT) (N := 4) hx hb htT i_TT hown hK hP 0 rfl rfl 1 (by decide) (htT _ k_153) (fun _ h9 => h9) rfl d_TT_count_1 ?_
  refine va_get (D := D) (ci := 5) (v := .int (nI n)) (C := R_TM) (T := F_TM) (N := 10) hx hb htT i_TM hown hK hP 1 rfl rfl 9 (by decide) (htT _ k_78) (fun _ h9 => h9) rfl d_TT_count_4 ?_
  have o_r : (nI n) = (nI n) := rfl
  exact W.iret (v := nI n) hx hb hr (fun t ht hW => ⟨⟨_, (), rfl, o_r, trivial⟩, hS.F ht⟩) hS.2.2 d_TT_count_7
abbrev rm_TT_change : Room := { frames := 2, cells := 0, slots := 0, locals := 44 }
abbrev q_TT_change (D : va_G) (cI cB cL : ClassId) (ad : Nat → Nat) (g : Nat → Int32) (cn : Nat) (x b : Int32) (A : Nat → Prop) : Array Value → State → Outcome → State → Prop := va_Qi (fun r9 _ => r9 = (tt_rpA g cn x b)) (fun (_ : Unit) t => va_P D vwCl [(ad 13, .inr (0, [.ref (ad 14), .ref (ad 0), .ref (ad 11), .ref (ad 16)])), (ad 14, .inr (1, [.ref (ad 15), .int (nI cn)])), (ad 15, .inl (cB, 16384, .inl (tt_rpF g cn x b)))] t.heap ∧ va_D A [(ad 13, .inr (0, [.ref (ad 14), .ref (ad 0), .ref (ad 11), .ref (ad 16)])), (ad 14, .inr (1, [.ref (ad 15), .int (nI cn)])), (ad 15, .inl (cB, 16384, .inl (tt_rpF g cn x b)))]) A
set_option maxHeartbeats 4000000 in
set_option maxRecDepth 100000 in
theorem c_TT_change (l : Launch) (D : va_G) (cI cB cL : ClassId) (ad : Nat → Nat) (g : Nat → Int32) (cn : Nat) (x b : Int32) (hn : cn ≤ 16384) (sz : Nat) : Met l y_TT_change w_TT_change rm_TT_change (va_Pc [.ref (ad 13), .int x, .int b] (fun U => U.heap.size = sz ∧ va_P D vwCl [(ad 13, .inr (0, [.ref (ad 14), .ref (ad 0), .ref (ad 11), .ref (ad 16)])), (ad 14, .inr (1, [.ref (ad 15), .int (nI cn)])), (ad 15, .inl (cB, 16384, .inl g))] U.heap ∧ va_K D vwCl (tt_ty cI cB cL) U ∧ va_D (fun _ => True) [(ad 13, .inr (0, [.ref (ad 14), .ref (ad 0), .ref (ad 11), .ref (ad 16)])), (ad 14, .inr (1, [.ref (ad 15), .int (nI cn)])), (ad 15, .inl (cB, 16384, .inl g))])) (q_TT_change D cI cB cL ad g cn x b (va_A [(ad 13, .inr (0, [.ref (ad 14), .ref (ad 0), .ref (ad 11), .ref (ad 16)])), (ad 14, .inr (1, [.ref (ad 15), .int (nI cn)])), (ad 15, .inl (cB, 16384, .inl g))] sz)) 0 0 (va_A [(ad 13, .inr (0, [.ref (ad 14), .ref (ad 0), .ref (ad 11), .ref (ad 16)])), (ad 14, .inr (1, [.ref (ad 15), .int (nI cn)])), (ad 15, .inl (cB, 16384, .inl g))] sz) := by
  refine Met.ofW (cc := b_TT_change) (maxL := 3) (ret := (some .int)) (by decide) rfl ?_
  intro p e s m args below meth c s₁ B hml hv
  obtain ⟨rfl, hsz, hP, hK, hD0⟩ := hv
  have hx := B.exec
  have hb := B.bytes
  have hr := B.returns
  have hts := atoms_spec (ws := w_TT_change) B.pre
  have htT : ∀ w ∈ tt_T, w.before _ s = true := fun w h => hts w (List.mem_cons_of_mem _ h)
  have hown : s.vm.findClass R_TT = some m.cls := findClass_of_methodNamed B.named
  have hlocks := B.notSynchronized
  subst hsz
  have hD := hD0.self (sz := s.heap.size)
  generalize hAe : va_A [(ad 13, .inr (0, [.ref (ad 14), .ref (ad 0), .ref (ad 11), .ref (ad 16)])), (ad 14, .inr (1, [.ref (ad 15), .int (nI cn)])), (ad 15, .inl (cB, 16384, .inl g))] s.heap.size = A at hD ⊢
  have hA : ∀ q : Nat, s.heap.size ≤ q → A q := fun q h => by rw [← hAe]; exact Or.inr h
  have hS : va_S A s.heap s.heap [] := va_S.rf
  have hl := lv_entry ([.ref (ad 13), .int x, .int b]) (n := 3) (Nat.le_of_ble_eq_true rfl)
  rw [lg_entry_eq]
  generalize (lg_sl ([.ref (ad 13), .int x, .int b]) ++ List.replicate (3 - (lg_sl ([.ref (ad 13), .int x, .int b])).length) Slot.unset).toArray = ls at hl ⊢
  have hl : lv_has ls 3 [(0, .ref (ad 13)), (1, .int x), (2, .int b)] := hl
  have hP : va_P D vwCl [(ad 13, .inr (0, [.ref (ad 14), .ref (ad 0), .ref (ad 11), .ref (ad 16)])), (ad 14, .inr (1, [.ref (ad 15), .int (nI cn)])), (ad 15, .inl (cB, 16384, .inl g))] s.heap := hP
  refine lv_aload_n hx hb d_TT_change_0 rfl (lv_at hl 0 rfl) ?_
  refine va_get (D := D) (ci := 0) (v := .ref (ad 14)) (C := R_TT) (T := F_TT) (N := 4) hx hb htT i_TT hown hK hP 0 rfl rfl 0 (by decide) (htT _ k_152) (fun _ h9 => h9) rfl d_TT_change_1 ?_
  refine lv_iload_n hx hb d_TT_change_4 rfl (lv_at hl 1 rfl) ?_
  refine lv_iload_n hx hb d_TT_change_5 rfl (lv_at hl 2 rfl) ?_
  refine tt_muI (wr := [(ad 13, .inr (0, [.ref (ad 14), .ref (ad 0), .ref (ad 11), .ref (ad 16)]))]) (va_runV (As := [.int x, .int b]) (rest := []) ⟨hx, hb, hml, hown, hts⟩ (c_BY_replace l D cI cB cL (ad 14) (ad 15) g cn x b (by omega) _) (cwV 2 hts (tt_gV k_169 k_170 k_171 k_2 k_172) rfl rfl rfl hv_BY_replace ⟨Nat.le_of_ble_eq_true rfl, Nat.le_of_ble_eq_true rfl⟩) (tt_mupreV (w := [(ad 14, .inr (1, [.ref (ad 15), .int (nI cn)])), (ad 15, .inl (cB, 16384, .inl g))]) hK hP hD [1, 2] rfl (by decide) rfl (va_recv hK hP (ci := 1) (q0 := 1) rfl rfl)) rfl rfl hl.1 rfl (lv_room (Nat.le_of_ble_eq_true rfl)) d_TT_change_6 ⟨Nat.zero_le _, Nat.zero_le _⟩) hS hP hD hA [1, 2] [0] rfl rfl (by decide) (by decide) (fun H locs hP hD hS => ?_)
  have hP : va_P D vwCl [(ad 13, .inr (0, [.ref (ad 14), .ref (ad 0), .ref (ad 11), .ref (ad 16)])), (ad 14, .inr (1, [.ref (ad 15), .int (nI cn)])), (ad 15, .inl (cB, 16384, .inl (tt_rpF g cn x b)))] H := hP
  have hD : va_D A [(ad 13, .inr (0, [.ref (ad 14), .ref (ad 0), .ref (ad 11), .ref (ad 16)])), (ad 14, .inr (1, [.ref (ad 15), .int (nI cn)])), (ad 15, .inl (cB, 16384, .inl (tt_rpF g cn x b)))] := hD
  have o_r : (tt_rpA g cn x b) = (tt_rpA g cn x b) := rfl
  have hP9 : va_P D vwCl [(ad 13, .inr (0, [.ref (ad 14), .ref (ad 0), .ref (ad 11), .ref (ad 16)])), (ad 14, .inr (1, [.ref (ad 15), .int (nI cn)])), (ad 15, .inl (cB, 16384, .inl (tt_rpF g cn x b)))] H := hP.sub [0, 1, 2] rfl
  have hD9 : va_D A [(ad 13, .inr (0, [.ref (ad 14), .ref (ad 0), .ref (ad 11), .ref (ad 16)])), (ad 14, .inr (1, [.ref (ad 15), .int (nI cn)])), (ad 15, .inl (cB, 16384, .inl (tt_rpF g cn x b)))] := hD.sub [0, 1, 2] (by decide) rfl
  exact W.iret (v := tt_rpA g cn x b) hx hb hr (fun t ht hW => ⟨⟨_, (), rfl, o_r, by rw [ht]; exact hP9, hD9⟩, hS.F ht⟩) hS.2.2 d_TT_change_9
abbrev rm_TT_feed : Room := { frames := 1, cells := 0, slots := 0, locals := 22 }
abbrev q_TT_feed (D : va_G) (cI cB cL : ClassId) (ad : Nat → Nat) (g : Nat → Int32) (cn : Nat) (x0 x1 x2 x3 x4 : Int32) (A : Nat → Prop) : Array Value → State → Outcome → State → Prop := va_Qv (fun _ => True) (fun (_ : Unit) t => va_P D vwCl [(ad 13, .inr (0, [.ref (ad 14), .ref (ad 0), .ref (ad 11), .ref (ad 16)])), (ad 14, .inr (1, [.ref (ad 15), .int (nI (cn + 20))])), (ad 15, .inl (cB, 16384, .inl (tt_f20 g cn x0 x1 x2 x3 x4)))] t.heap ∧ va_D A [(ad 13, .inr (0, [.ref (ad 14), .ref (ad 0), .ref (ad 11), .ref (ad 16)])), (ad 14, .inr (1, [.ref (ad 15), .int (nI (cn + 20))])), (ad 15, .inl (cB, 16384, .inl (tt_f20 g cn x0 x1 x2 x3 x4)))]) A
set_option maxHeartbeats 4000000 in
set_option maxRecDepth 100000 in
theorem c_TT_feed (l : Launch) (D : va_G) (cI cB cL : ClassId) (ad : Nat → Nat) (g : Nat → Int32) (cn : Nat) (x0 x1 x2 x3 x4 : Int32) (hn : cn + 20 ≤ 16384) (sz : Nat) : Met l y_TT_feed w_TT_feed rm_TT_feed (va_Pc [.ref (ad 13), .int x0, .int x1, .int x2, .int x3, .int x4] (fun U => U.heap.size = sz ∧ va_P D vwCl [(ad 13, .inr (0, [.ref (ad 14), .ref (ad 0), .ref (ad 11), .ref (ad 16)])), (ad 14, .inr (1, [.ref (ad 15), .int (nI cn)])), (ad 15, .inl (cB, 16384, .inl g))] U.heap ∧ va_K D vwCl (tt_ty cI cB cL) U ∧ va_D (fun _ => True) [(ad 13, .inr (0, [.ref (ad 14), .ref (ad 0), .ref (ad 11), .ref (ad 16)])), (ad 14, .inr (1, [.ref (ad 15), .int (nI cn)])), (ad 15, .inl (cB, 16384, .inl g))])) (q_TT_feed D cI cB cL ad g cn x0 x1 x2 x3 x4 (va_A [(ad 13, .inr (0, [.ref (ad 14), .ref (ad 0), .ref (ad 11), .ref (ad 16)])), (ad 14, .inr (1, [.ref (ad 15), .int (nI cn)])), (ad 15, .inl (cB, 16384, .inl g))] sz)) 0 0 (va_A [(ad 13, .inr (0, [.ref (ad 14), .ref (ad 0), .ref (ad 11), .ref (ad 16)])), (ad 14, .inr (1, [.ref (ad 15), .int (nI cn)])), (ad 15, .inl (cB, 16384, .inl g))] sz) := by
  refine Met.ofW (cc := b_TT_feed) (maxL := 6) (ret := none) (by decide) rfl ?_
  intro p e s m args below meth c s₁ B hml hv
  obtain ⟨rfl, hsz, hP, hK, hD0⟩ := hv
  have hx := B.exec
  have hb := B.bytes
  have hr := B.returns
  have hts := atoms_spec (ws := w_TT_feed) B.pre
  have htT : ∀ w ∈ tt_T, w.before _ s = true := fun w h => hts w (List.mem_cons_of_mem _ h)
  have hown : s.vm.findClass R_TT = some m.cls := findClass_of_methodNamed B.named
  have hlocks := B.notSynchronized
  subst hsz
  have hD := hD0.self (sz := s.heap.size)
  generalize hAe : va_A [(ad 13, .inr (0, [.ref (ad 14), .ref (ad 0), .ref (ad 11), .ref (ad 16)])), (ad 14, .inr (1, [.ref (ad 15), .int (nI cn)])), (ad 15, .inl (cB, 16384, .inl g))] s.heap.size = A at hD ⊢
  have hA : ∀ q : Nat, s.heap.size ≤ q → A q := fun q h => by rw [← hAe]; exact Or.inr h
  have hS : va_S A s.heap s.heap [] := va_S.rf
  have hl := lv_entry ([.ref (ad 13), .int x0, .int x1, .int x2, .int x3, .int x4]) (n := 6) (Nat.le_of_ble_eq_true rfl)
  rw [lg_entry_eq]
  generalize (lg_sl ([.ref (ad 13), .int x0, .int x1, .int x2, .int x3, .int x4]) ++ List.replicate (6 - (lg_sl ([.ref (ad 13), .int x0, .int x1, .int x2, .int x3, .int x4])).length) Slot.unset).toArray = ls at hl ⊢
  have hl : lv_has ls 6 [(0, .ref (ad 13)), (1, .int x0), (2, .int x1), (3, .int x2), (4, .int x3), (5, .int x4)] := hl
  have hP : va_P D vwCl [(ad 13, .inr (0, [.ref (ad 14), .ref (ad 0), .ref (ad 11), .ref (ad 16)])), (ad 14, .inr (1, [.ref (ad 15), .int (nI cn)])), (ad 15, .inl (cB, 16384, .inl g))] s.heap := hP
  refine lv_aload_n hx hb d_TT_feed_0 rfl (lv_at hl 0 rfl) ?_
  refine va_get (D := D) (ci := 0) (v := .ref (ad 14)) (C := R_TT) (T := F_TT) (N := 4) hx hb htT i_TT hown hK hP 0 rfl rfl 0 (by decide) (htT _ k_152) (fun _ h9 => h9) rfl d_TT_feed_1 ?_
  refine va_get (D := D) (ci := 1) (v := .int (nI cn)) (C := R_BY) (T := F_BY) (N := 2) hx hb htT i_BY hown hK hP 1 rfl rfl 1 (by decide) (htT _ k_39) (fun _ h9 => h9) rfl d_TT_feed_4 ?_
  refine lv_sipush (v := 16364) hx hb d_TT_feed_7 (by decide) ?_
  refine lv_icmp_le (tgt := 23) hx hb d_TT_feed_10 (by decide) (fun c_10 => ?_) (fun c_10 => ?_)
  · have c_10 : cn ≤ 16364 := (nI_leI (a := cn) (b := 16364) (by omega) (by omega)).mp c_10
    refine lv_aload_n hx hb d_TT_feed_23 rfl (lv_at hl 0 rfl) ?_
    refine va_get (D := D) (ci := 0) (v := .ref (ad 14)) (C := R_TT) (T := F_TT) (N := 4) hx hb htT i_TT hown hK hP 0 rfl rfl 0 (by decide) (htT _ k_152) (fun _ h9 => h9) rfl d_TT_feed_24 ?_
    refine lv_iload_n hx hb d_TT_feed_27 rfl (lv_at hl 1 rfl) ?_
    refine tt_muV (wr := [(ad 13, .inr (0, [.ref (ad 14), .ref (ad 0), .ref (ad 11), .ref (ad 16)]))]) (va_runV (As := [.int x0]) (rest := []) ⟨hx, hb, hml, hown, hts⟩ (c_BY_addFour l D cI cB cL (ad 14) (ad 15) g cn x0 (by omega) _) (cwV 1 hts (tt_gV k_601 k_602 k_603 k_2 k_604) rfl rfl rfl hv_BY_addFour ⟨Nat.le_of_ble_eq_true rfl, Nat.le_of_ble_eq_true rfl⟩) (tt_mupreV (w := [(ad 14, .inr (1, [.ref (ad 15), .int (nI cn)])), (ad 15, .inl (cB, 16384, .inl g))]) hK hP hD [1, 2] rfl (by decide) rfl (va_recv hK hP (ci := 1) (q0 := 1) rfl rfl)) rfl rfl hl.1 rfl (lv_room (Nat.le_of_ble_eq_true rfl)) d_TT_feed_28 ⟨Nat.zero_le _, Nat.zero_le _⟩) hS hP hD hA [1, 2] [0] rfl rfl (by decide) (by decide) (fun H locs hP hD hS => ?_)
    have hP : va_P D vwCl [(ad 13, .inr (0, [.ref (ad 14), .ref (ad 0), .ref (ad 11), .ref (ad 16)])), (ad 14, .inr (1, [.ref (ad 15), .int (nI (cn + 4))])), (ad 15, .inl (cB, 16384, .inl (tt_f4 g cn x0)))] H := hP
    have hD : va_D A [(ad 13, .inr (0, [.ref (ad 14), .ref (ad 0), .ref (ad 11), .ref (ad 16)])), (ad 14, .inr (1, [.ref (ad 15), .int (nI (cn + 4))])), (ad 15, .inl (cB, 16384, .inl (tt_f4 g cn x0)))] := hD
    refine lv_aload_n hx hb d_TT_feed_31 rfl (lv_at hl 0 rfl) ?_
    refine va_get (D := D) (ci := 0) (v := .ref (ad 14)) (C := R_TT) (T := F_TT) (N := 4) hx hb htT i_TT hown hK hP 0 rfl rfl 0 (by decide) (htT _ k_152) (fun _ h9 => h9) rfl d_TT_feed_32 ?_
    refine lv_iload_n hx hb d_TT_feed_35 rfl (lv_at hl 2 rfl) ?_
    refine tt_muV (wr := [(ad 13, .inr (0, [.ref (ad 14), .ref (ad 0), .ref (ad 11), .ref (ad 16)]))]) (va_runV (As := [.int x1]) (rest := []) ⟨hx, hb, hml, hown, hts⟩ (c_BY_addFour l D cI cB cL (ad 14) (ad 15) (tt_f4 g cn x0) (cn + 4) x1 (by omega) _) (cwV 1 hts (tt_gV k_601 k_602 k_603 k_2 k_604) rfl rfl rfl hv_BY_addFour ⟨Nat.le_of_ble_eq_true rfl, Nat.le_of_ble_eq_true rfl⟩) (tt_mupreV (w := [(ad 14, .inr (1, [.ref (ad 15), .int (nI (cn + 4))])), (ad 15, .inl (cB, 16384, .inl (tt_f4 g cn x0)))]) hK hP hD [1, 2] rfl (by decide) rfl (va_recv hK hP (ci := 1) (q0 := 1) rfl rfl)) rfl rfl hl.1 rfl (lv_room (Nat.le_of_ble_eq_true rfl)) d_TT_feed_36 ⟨Nat.zero_le _, Nat.zero_le _⟩) hS hP hD hA [1, 2] [0] rfl rfl (by decide) (by decide) (fun H locs hP hD hS => ?_)
    have hP : va_P D vwCl [(ad 13, .inr (0, [.ref (ad 14), .ref (ad 0), .ref (ad 11), .ref (ad 16)])), (ad 14, .inr (1, [.ref (ad 15), .int (nI ((cn + 4) + 4))])), (ad 15, .inl (cB, 16384, .inl (tt_f4 (tt_f4 g cn x0) (cn + 4) x1)))] H := hP
    have hD : va_D A [(ad 13, .inr (0, [.ref (ad 14), .ref (ad 0), .ref (ad 11), .ref (ad 16)])), (ad 14, .inr (1, [.ref (ad 15), .int (nI ((cn + 4) + 4))])), (ad 15, .inl (cB, 16384, .inl (tt_f4 (tt_f4 g cn x0) (cn + 4) x1)))] := hD
    refine lv_aload_n hx hb d_TT_feed_39 rfl (lv_at hl 0 rfl) ?_
    refine va_get (D := D) (ci := 0) (v := .ref (ad 14)) (C := R_TT) (T := F_TT) (N := 4) hx hb htT i_TT hown hK hP 0 rfl rfl 0 (by decide) (htT _ k_152) (fun _ h9 => h9) rfl d_TT_feed_40 ?_
    refine lv_iload_n hx hb d_TT_feed_43 rfl (lv_at hl 3 rfl) ?_
    refine tt_muV (wr := [(ad 13, .inr (0, [.ref (ad 14), .ref (ad 0), .ref (ad 11), .ref (ad 16)]))]) (va_runV (As := [.int x2]) (rest := []) ⟨hx, hb, hml, hown, hts⟩ (c_BY_addFour l D cI cB cL (ad 14) (ad 15) (tt_f4 (tt_f4 g cn x0) (cn + 4) x1) ((cn + 4) + 4) x2 (by omega) _) (cwV 1 hts (tt_gV k_601 k_602 k_603 k_2 k_604) rfl rfl rfl hv_BY_addFour ⟨Nat.le_of_ble_eq_true rfl, Nat.le_of_ble_eq_true rfl⟩) (tt_mupreV (w := [(ad 14, .inr (1, [.ref (ad 15), .int (nI ((cn + 4) + 4))])), (ad 15, .inl (cB, 16384, .inl (tt_f4 (tt_f4 g cn x0) (cn + 4) x1)))]) hK hP hD [1, 2] rfl (by decide) rfl (va_recv hK hP (ci := 1) (q0 := 1) rfl rfl)) rfl rfl hl.1 rfl (lv_room (Nat.le_of_ble_eq_true rfl)) d_TT_feed_44 ⟨Nat.zero_le _, Nat.zero_le _⟩) hS hP hD hA [1, 2] [0] rfl rfl (by decide) (by decide) (fun H locs hP hD hS => ?_)
    have hP : va_P D vwCl [(ad 13, .inr (0, [.ref (ad 14), .ref (ad 0), .ref (ad 11), .ref (ad 16)])), (ad 14, .inr (1, [.ref (ad 15), .int (nI (((cn + 4) + 4) + 4))])), (ad 15, .inl (cB, 16384, .inl (tt_f4 (tt_f4 (tt_f4 g cn x0) (cn + 4) x1) ((cn + 4) + 4) x2)))] H := hP
    have hD : va_D A [(ad 13, .inr (0, [.ref (ad 14), .ref (ad 0), .ref (ad 11), .ref (ad 16)])), (ad 14, .inr (1, [.ref (ad 15), .int (nI (((cn + 4) + 4) + 4))])), (ad 15, .inl (cB, 16384, .inl (tt_f4 (tt_f4 (tt_f4 g cn x0) (cn + 4) x1) ((cn + 4) + 4) x2)))] := hD
    refine lv_aload_n hx hb d_TT_feed_47 rfl (lv_at hl 0 rfl) ?_
    refine va_get (D := D) (ci := 0) (v := .ref (ad 14)) (C := R_TT) (T := F_TT) (N := 4) hx hb htT i_TT hown hK hP 0 rfl rfl 0 (by decide) (htT _ k_152) (fun _ h9 => h9) rfl d_TT_feed_48 ?_
    refine lv_iload hx hb d_TT_feed_51 (lv_at hl 4 rfl) ?_
    refine tt_muV (wr := [(ad 13, .inr (0, [.ref (ad 14), .ref (ad 0), .ref (ad 11), .ref (ad 16)]))]) (va_runV (As := [.int x3]) (rest := []) ⟨hx, hb, hml, hown, hts⟩ (c_BY_addFour l D cI cB cL (ad 14) (ad 15) (tt_f4 (tt_f4 (tt_f4 g cn x0) (cn + 4) x1) ((cn + 4) + 4) x2) (((cn + 4) + 4) + 4) x3 (by omega) _) (cwV 1 hts (tt_gV k_601 k_602 k_603 k_2 k_604) rfl rfl rfl hv_BY_addFour ⟨Nat.le_of_ble_eq_true rfl, Nat.le_of_ble_eq_true rfl⟩) (tt_mupreV (w := [(ad 14, .inr (1, [.ref (ad 15), .int (nI (((cn + 4) + 4) + 4))])), (ad 15, .inl (cB, 16384, .inl (tt_f4 (tt_f4 (tt_f4 g cn x0) (cn + 4) x1) ((cn + 4) + 4) x2)))]) hK hP hD [1, 2] rfl (by decide) rfl (va_recv hK hP (ci := 1) (q0 := 1) rfl rfl)) rfl rfl hl.1 rfl (lv_room (Nat.le_of_ble_eq_true rfl)) d_TT_feed_53 ⟨Nat.zero_le _, Nat.zero_le _⟩) hS hP hD hA [1, 2] [0] rfl rfl (by decide) (by decide) (fun H locs hP hD hS => ?_)
    have hP : va_P D vwCl [(ad 13, .inr (0, [.ref (ad 14), .ref (ad 0), .ref (ad 11), .ref (ad 16)])), (ad 14, .inr (1, [.ref (ad 15), .int (nI ((((cn + 4) + 4) + 4) + 4))])), (ad 15, .inl (cB, 16384, .inl (tt_f4 (tt_f4 (tt_f4 (tt_f4 g cn x0) (cn + 4) x1) ((cn + 4) + 4) x2) (((cn + 4) + 4) + 4) x3)))] H := hP
    have hD : va_D A [(ad 13, .inr (0, [.ref (ad 14), .ref (ad 0), .ref (ad 11), .ref (ad 16)])), (ad 14, .inr (1, [.ref (ad 15), .int (nI ((((cn + 4) + 4) + 4) + 4))])), (ad 15, .inl (cB, 16384, .inl (tt_f4 (tt_f4 (tt_f4 (tt_f4 g cn x0) (cn + 4) x1) ((cn + 4) + 4) x2) (((cn + 4) + 4) + 4) x3)))] := hD
    refine lv_aload_n hx hb d_TT_feed_56 rfl (lv_at hl 0 rfl) ?_
    refine va_get (D := D) (ci := 0) (v := .ref (ad 14)) (C := R_TT) (T := F_TT) (N := 4) hx hb htT i_TT hown hK hP 0 rfl rfl 0 (by decide) (htT _ k_152) (fun _ h9 => h9) rfl d_TT_feed_57 ?_
    refine lv_iload hx hb d_TT_feed_60 (lv_at hl 5 rfl) ?_
    refine tt_muV (wr := [(ad 13, .inr (0, [.ref (ad 14), .ref (ad 0), .ref (ad 11), .ref (ad 16)]))]) (va_runV (As := [.int x4]) (rest := []) ⟨hx, hb, hml, hown, hts⟩ (c_BY_addFour l D cI cB cL (ad 14) (ad 15) (tt_f4 (tt_f4 (tt_f4 (tt_f4 g cn x0) (cn + 4) x1) ((cn + 4) + 4) x2) (((cn + 4) + 4) + 4) x3) ((((cn + 4) + 4) + 4) + 4) x4 (by omega) _) (cwV 1 hts (tt_gV k_601 k_602 k_603 k_2 k_604) rfl rfl rfl hv_BY_addFour ⟨Nat.le_of_ble_eq_true rfl, Nat.le_of_ble_eq_true rfl⟩) (tt_mupreV (w := [(ad 14, .inr (1, [.ref (ad 15), .int (nI ((((cn + 4) + 4) + 4) + 4))])), (ad 15, .inl (cB, 16384, .inl (tt_f4 (tt_f4 (tt_f4 (tt_f4 g cn x0) (cn + 4) x1) ((cn + 4) + 4) x2) (((cn + 4) + 4) + 4) x3)))]) hK hP hD [1, 2] rfl (by decide) rfl (va_recv hK hP (ci := 1) (q0 := 1) rfl rfl)) rfl rfl hl.1 rfl (lv_room (Nat.le_of_ble_eq_true rfl)) d_TT_feed_62 ⟨Nat.zero_le _, Nat.zero_le _⟩) hS hP hD hA [1, 2] [0] rfl rfl (by decide) (by decide) (fun H locs hP hD hS => ?_)
    have hP : va_P D vwCl [(ad 13, .inr (0, [.ref (ad 14), .ref (ad 0), .ref (ad 11), .ref (ad 16)])), (ad 14, .inr (1, [.ref (ad 15), .int (nI (((((cn + 4) + 4) + 4) + 4) + 4))])), (ad 15, .inl (cB, 16384, .inl (tt_f4 (tt_f4 (tt_f4 (tt_f4 (tt_f4 g cn x0) (cn + 4) x1) ((cn + 4) + 4) x2) (((cn + 4) + 4) + 4) x3) ((((cn + 4) + 4) + 4) + 4) x4)))] H := hP
    have hD : va_D A [(ad 13, .inr (0, [.ref (ad 14), .ref (ad 0), .ref (ad 11), .ref (ad 16)])), (ad 14, .inr (1, [.ref (ad 15), .int (nI (((((cn + 4) + 4) + 4) + 4) + 4))])), (ad 15, .inl (cB, 16384, .inl (tt_f4 (tt_f4 (tt_f4 (tt_f4 (tt_f4 g cn x0) (cn + 4) x1) ((cn + 4) + 4) x2) (((cn + 4) + 4) + 4) x3) ((((cn + 4) + 4) + 4) + 4) x4)))] := hD
    have o_g2 : (tt_f20 g cn x0 x1 x2 x3 x4) = (tt_f4 (tt_f4 (tt_f4 (tt_f4 (tt_f4 g cn x0) (cn + 4) x1) ((cn + 4) + 4) x2) (((cn + 4) + 4) + 4) x3) ((((cn + 4) + 4) + 4) + 4) x4) := by rfl
    have o_n2 : (cn + 20 : Nat) = (((((cn + 4) + 4) + 4) + 4) + 4) := by rfl
    have hP9 : va_P D vwCl [(ad 13, .inr (0, [.ref (ad 14), .ref (ad 0), .ref (ad 11), .ref (ad 16)])), (ad 14, .inr (1, [.ref (ad 15), .int (nI (((((cn + 4) + 4) + 4) + 4) + 4))])), (ad 15, .inl (cB, 16384, .inl (tt_f4 (tt_f4 (tt_f4 (tt_f4 (tt_f4 g cn x0) (cn + 4) x1) ((cn + 4) + 4) x2) (((cn + 4) + 4) + 4) x3) ((((cn + 4) + 4) + 4) + 4) x4)))] H := hP.sub [0, 1, 2] rfl
    have hD9 : va_D A [(ad 13, .inr (0, [.ref (ad 14), .ref (ad 0), .ref (ad 11), .ref (ad 16)])), (ad 14, .inr (1, [.ref (ad 15), .int (nI (((((cn + 4) + 4) + 4) + 4) + 4))])), (ad 15, .inl (cB, 16384, .inl (tt_f4 (tt_f4 (tt_f4 (tt_f4 (tt_f4 g cn x0) (cn + 4) x1) ((cn + 4) + 4) x2) (((cn + 4) + 4) + 4) x3) ((((cn + 4) + 4) + 4) + 4) x4)))] := hD.sub [0, 1, 2] (by decide) rfl
    have hP9 : va_P D vwCl [(ad 13, .inr (0, [.ref (ad 14), .ref (ad 0), .ref (ad 11), .ref (ad 16)])), (ad 14, .inr (1, [.ref (ad 15), .int (nI (cn + 20))])), (ad 15, .inl (cB, 16384, .inl (tt_f20 g cn x0 x1 x2 x3 x4)))] H := by rw [o_g2, o_n2]; exact hP9
    have hD9 : va_D A [(ad 13, .inr (0, [.ref (ad 14), .ref (ad 0), .ref (ad 11), .ref (ad 16)])), (ad 14, .inr (1, [.ref (ad 15), .int (nI (cn + 20))])), (ad 15, .inl (cB, 16384, .inl (tt_f20 g cn x0 x1 x2 x3 x4)))] := by rw [o_g2, o_n2]; exact hD9
    exact W.vret hx hb hr (fun t ht hW => ⟨⟨(), rfl, trivial, by rw [ht]; exact hP9, hD9⟩, hS.F ht⟩) hS.2.2 d_TT_feed_65
  · have c_10 : ¬ cn ≤ 16364 := fun z9 => c_10 ((nI_leI (a := cn) (b := 16364) (by omega) (by omega)).mpr z9)
    have c_10 := Nat.not_le.mp c_10
    exact absurd c_10 (by omega)
abbrev rm_TT_kind : Room := { frames := 1, cells := 0, slots := 0, locals := 22 }
abbrev q_TT_kind (D : va_G) (cI cB cL : ClassId) (ad : Nat → Nat) (r : Nat → Nat → Int32) (n : Nat) (x : Int32) : Array Value → State → Outcome → State → Prop := va_Qi (fun r9 (_ : Unit) => r9 = (tt_in (r 0) n x)) (fun _ _ => True) (fun _ => False)
set_option maxHeartbeats 4000000 in
set_option maxRecDepth 100000 in
theorem c_TT_kind (l : Launch) (D : va_G) (cI cB cL : ClassId) (ad : Nat → Nat) (r : Nat → Nat → Int32) (n : Nat) (x : Int32) : Met l y_TT_kind w_TT_kind rm_TT_kind (va_Pc [.ref (ad 13), .int x] (fun U => va_P D vwCl [(ad 13, .inr (0, [.ref (ad 14), .ref (ad 0), .ref (ad 11), .ref (ad 16)])), (ad 0, .inr (5, [.ref (ad 1), .ref (ad 3), .ref (ad 4), .ref (ad 5), .ref (ad 6), .ref (ad 7), .ref (ad 8), .ref (ad 9), .ref (ad 10), .int (nI n)])), (ad 3, .inl (cI, 4096, .inl (r 0))), (ad 4, .inl (cI, 4096, .inl (r 1))), (ad 5, .inl (cI, 4096, .inl (r 2))), (ad 6, .inl (cI, 4096, .inl (r 3))), (ad 7, .inl (cI, 4096, .inl (r 4))), (ad 8, .inl (cI, 4096, .inl (r 5))), (ad 9, .inl (cI, 4096, .inl (r 6))), (ad 10, .inl (cI, 4096, .inl (r 7)))] U.heap ∧ va_K D vwCl (tt_ty cI cB cL) U)) (q_TT_kind D cI cB cL ad r n x) 0 0 (fun _ => False) := by
  refine Met.ofW (cc := b_TT_kind) (maxL := 2) (ret := (some .int)) (by decide) rfl ?_
  intro p e s m args below meth c s₁ B hml hv
  obtain ⟨rfl, hP, hK⟩ := hv
  have hx := B.exec
  have hb := B.bytes
  have hr := B.returns
  have hts := atoms_spec (ws := w_TT_kind) B.pre
  have htT : ∀ w ∈ tt_T, w.before _ s = true := fun w h => hts w (List.mem_cons_of_mem _ h)
  have hown : s.vm.findClass R_TT = some m.cls := findClass_of_methodNamed B.named
  have hlocks := B.notSynchronized
  have hS : va_S (fun _ => False) s.heap s.heap [] := va_S.rf
  have hl := lv_entry ([.ref (ad 13), .int x]) (n := 2) (Nat.le_of_ble_eq_true rfl)
  rw [lg_entry_eq]
  generalize (lg_sl ([.ref (ad 13), .int x]) ++ List.replicate (2 - (lg_sl ([.ref (ad 13), .int x])).length) Slot.unset).toArray = ls at hl ⊢
  have hl : lv_has ls 2 [(0, .ref (ad 13)), (1, .int x)] := hl
  have hP : va_P D vwCl [(ad 13, .inr (0, [.ref (ad 14), .ref (ad 0), .ref (ad 11), .ref (ad 16)])), (ad 0, .inr (5, [.ref (ad 1), .ref (ad 3), .ref (ad 4), .ref (ad 5), .ref (ad 6), .ref (ad 7), .ref (ad 8), .ref (ad 9), .ref (ad 10), .int (nI n)])), (ad 3, .inl (cI, 4096, .inl (r 0))), (ad 4, .inl (cI, 4096, .inl (r 1))), (ad 5, .inl (cI, 4096, .inl (r 2))), (ad 6, .inl (cI, 4096, .inl (r 3))), (ad 7, .inl (cI, 4096, .inl (r 4))), (ad 8, .inl (cI, 4096, .inl (r 5))), (ad 9, .inl (cI, 4096, .inl (r 6))), (ad 10, .inl (cI, 4096, .inl (r 7)))] s.heap := hP
  refine lv_aload_n hx hb d_TT_kind_0 rfl (lv_at hl 0 rfl) ?_
  refine va_get (D := D) (ci := 0) (v := .ref (ad 0)) (C := R_TT) (T := F_TT) (N := 4) hx hb htT i_TT hown hK hP 0 rfl rfl 1 (by decide) (htT _ k_153) (fun _ h9 => h9) rfl d_TT_kind_1 ?_
  refine lv_aload_n hx hb d_TT_kind_4 rfl (lv_at hl 0 rfl) ?_
  refine va_get (D := D) (ci := 0) (v := .ref (ad 0)) (C := R_TT) (T := F_TT) (N := 4) hx hb htT i_TT hown hK hP 0 rfl rfl 1 (by decide) (htT _ k_153) (fun _ h9 => h9) rfl d_TT_kind_5 ?_
  refine va_get (D := D) (ci := 5) (v := .ref (ad 3)) (C := R_TM) (T := F_TM) (N := 10) hx hb htT i_TM hown hK hP 1 rfl rfl 1 (by decide) (htT _ k_60) (fun _ h9 => h9) rfl d_TT_kind_8 ?_
  refine lv_iload_n hx hb d_TT_kind_11 rfl (lv_at hl 1 rfl) ?_
  refine tt_roI (va_runV (As := [.ref (ad 3), .int x]) (rest := []) ⟨hx, hb, hml, hown, hts⟩ (c_TM_in l D cI cB cL ad n (ad 3) (r 0) x) (cwV 2 hts (tt_gV k_405 k_262 k_263 k_3 k_264) rfl rfl rfl hv_TM_in ⟨Nat.le_of_ble_eq_true rfl, Nat.le_of_ble_eq_true rfl⟩) (tt_ropreV (w := [(ad 0, .inr (5, [.ref (ad 1), .ref (ad 3), .ref (ad 4), .ref (ad 5), .ref (ad 6), .ref (ad 7), .ref (ad 8), .ref (ad 9), .ref (ad 10), .int (nI n)])), (ad 3, .inl (cI, 4096, .inl (r 0)))]) hK hP [1, 2] rfl (va_recv hK hP (ci := 5) (q0 := 1) rfl rfl)) rfl rfl hl.1 rfl (lv_room (Nat.le_of_ble_eq_true rfl)) d_TT_kind_12 ⟨Nat.zero_le _, Nat.zero_le _⟩) hS hP (fun H locs hP hS => ?_)
  have o_r : (tt_in (r 0) n x) = (tt_in (r 0) n x) := rfl
  exact W.iret (v := tt_in (r 0) n x) hx hb hr (fun t ht hW => ⟨⟨_, (), rfl, o_r, trivial⟩, hS.F ht⟩) hS.2.2 d_TT_kind_15
abbrev rm_TT_parent : Room := { frames := 1, cells := 0, slots := 0, locals := 22 }
abbrev q_TT_parent (D : va_G) (cI cB cL : ClassId) (ad : Nat → Nat) (r : Nat → Nat → Int32) (n : Nat) (x : Int32) : Array Value → State → Outcome → State → Prop := va_Qi (fun r9 (_ : Unit) => r9 = (tt_in (r 1) n x)) (fun _ _ => True) (fun _ => False)
set_option maxHeartbeats 4000000 in
set_option maxRecDepth 100000 in
theorem c_TT_parent (l : Launch) (D : va_G) (cI cB cL : ClassId) (ad : Nat → Nat) (r : Nat → Nat → Int32) (n : Nat) (x : Int32) : Met l y_TT_parent w_TT_parent rm_TT_parent (va_Pc [.ref (ad 13), .int x] (fun U => va_P D vwCl [(ad 13, .inr (0, [.ref (ad 14), .ref (ad 0), .ref (ad 11), .ref (ad 16)])), (ad 0, .inr (5, [.ref (ad 1), .ref (ad 3), .ref (ad 4), .ref (ad 5), .ref (ad 6), .ref (ad 7), .ref (ad 8), .ref (ad 9), .ref (ad 10), .int (nI n)])), (ad 3, .inl (cI, 4096, .inl (r 0))), (ad 4, .inl (cI, 4096, .inl (r 1))), (ad 5, .inl (cI, 4096, .inl (r 2))), (ad 6, .inl (cI, 4096, .inl (r 3))), (ad 7, .inl (cI, 4096, .inl (r 4))), (ad 8, .inl (cI, 4096, .inl (r 5))), (ad 9, .inl (cI, 4096, .inl (r 6))), (ad 10, .inl (cI, 4096, .inl (r 7)))] U.heap ∧ va_K D vwCl (tt_ty cI cB cL) U)) (q_TT_parent D cI cB cL ad r n x) 0 0 (fun _ => False) := by
  refine Met.ofW (cc := b_TT_parent) (maxL := 2) (ret := (some .int)) (by decide) rfl ?_
  intro p e s m args below meth c s₁ B hml hv
  obtain ⟨rfl, hP, hK⟩ := hv
  have hx := B.exec
  have hb := B.bytes
  have hr := B.returns
  have hts := atoms_spec (ws := w_TT_parent) B.pre
  have htT : ∀ w ∈ tt_T, w.before _ s = true := fun w h => hts w (List.mem_cons_of_mem _ h)
  have hown : s.vm.findClass R_TT = some m.cls := findClass_of_methodNamed B.named
  have hlocks := B.notSynchronized
  have hS : va_S (fun _ => False) s.heap s.heap [] := va_S.rf
  have hl := lv_entry ([.ref (ad 13), .int x]) (n := 2) (Nat.le_of_ble_eq_true rfl)
  rw [lg_entry_eq]
  generalize (lg_sl ([.ref (ad 13), .int x]) ++ List.replicate (2 - (lg_sl ([.ref (ad 13), .int x])).length) Slot.unset).toArray = ls at hl ⊢
  have hl : lv_has ls 2 [(0, .ref (ad 13)), (1, .int x)] := hl
  have hP : va_P D vwCl [(ad 13, .inr (0, [.ref (ad 14), .ref (ad 0), .ref (ad 11), .ref (ad 16)])), (ad 0, .inr (5, [.ref (ad 1), .ref (ad 3), .ref (ad 4), .ref (ad 5), .ref (ad 6), .ref (ad 7), .ref (ad 8), .ref (ad 9), .ref (ad 10), .int (nI n)])), (ad 3, .inl (cI, 4096, .inl (r 0))), (ad 4, .inl (cI, 4096, .inl (r 1))), (ad 5, .inl (cI, 4096, .inl (r 2))), (ad 6, .inl (cI, 4096, .inl (r 3))), (ad 7, .inl (cI, 4096, .inl (r 4))), (ad 8, .inl (cI, 4096, .inl (r 5))), (ad 9, .inl (cI, 4096, .inl (r 6))), (ad 10, .inl (cI, 4096, .inl (r 7)))] s.heap := hP
  refine lv_aload_n hx hb d_TT_parent_0 rfl (lv_at hl 0 rfl) ?_
  refine va_get (D := D) (ci := 0) (v := .ref (ad 0)) (C := R_TT) (T := F_TT) (N := 4) hx hb htT i_TT hown hK hP 0 rfl rfl 1 (by decide) (htT _ k_153) (fun _ h9 => h9) rfl d_TT_parent_1 ?_
  refine lv_aload_n hx hb d_TT_parent_4 rfl (lv_at hl 0 rfl) ?_
  refine va_get (D := D) (ci := 0) (v := .ref (ad 0)) (C := R_TT) (T := F_TT) (N := 4) hx hb htT i_TT hown hK hP 0 rfl rfl 1 (by decide) (htT _ k_153) (fun _ h9 => h9) rfl d_TT_parent_5 ?_
  refine va_get (D := D) (ci := 5) (v := .ref (ad 4)) (C := R_TM) (T := F_TM) (N := 10) hx hb htT i_TM hown hK hP 1 rfl rfl 2 (by decide) (htT _ k_63) (fun _ h9 => h9) rfl d_TT_parent_8 ?_
  refine lv_iload_n hx hb d_TT_parent_11 rfl (lv_at hl 1 rfl) ?_
  refine tt_roI (va_runV (As := [.ref (ad 4), .int x]) (rest := []) ⟨hx, hb, hml, hown, hts⟩ (c_TM_in l D cI cB cL ad n (ad 4) (r 1) x) (cwV 2 hts (tt_gV k_405 k_262 k_263 k_3 k_264) rfl rfl rfl hv_TM_in ⟨Nat.le_of_ble_eq_true rfl, Nat.le_of_ble_eq_true rfl⟩) (tt_ropreV (w := [(ad 0, .inr (5, [.ref (ad 1), .ref (ad 3), .ref (ad 4), .ref (ad 5), .ref (ad 6), .ref (ad 7), .ref (ad 8), .ref (ad 9), .ref (ad 10), .int (nI n)])), (ad 4, .inl (cI, 4096, .inl (r 1)))]) hK hP [1, 3] rfl (va_recv hK hP (ci := 5) (q0 := 1) rfl rfl)) rfl rfl hl.1 rfl (lv_room (Nat.le_of_ble_eq_true rfl)) d_TT_parent_12 ⟨Nat.zero_le _, Nat.zero_le _⟩) hS hP (fun H locs hP hS => ?_)
  have o_r : (tt_in (r 1) n x) = (tt_in (r 1) n x) := rfl
  exact W.iret (v := tt_in (r 1) n x) hx hb hr (fun t ht hW => ⟨⟨_, (), rfl, o_r, trivial⟩, hS.F ht⟩) hS.2.2 d_TT_parent_15
abbrev rm_TT_arguments : Room := { frames := 1, cells := 0, slots := 0, locals := 22 }
abbrev q_TT_arguments (D : va_G) (cI cB cL : ClassId) (ad : Nat → Nat) (r : Nat → Nat → Int32) (n : Nat) (x : Int32) : Array Value → State → Outcome → State → Prop := va_Qi (fun r9 (_ : Unit) => r9 = (tt_in (r 2) n x)) (fun _ _ => True) (fun _ => False)
set_option maxHeartbeats 4000000 in
set_option maxRecDepth 100000 in
theorem c_TT_arguments (l : Launch) (D : va_G) (cI cB cL : ClassId) (ad : Nat → Nat) (r : Nat → Nat → Int32) (n : Nat) (x : Int32) : Met l y_TT_arguments w_TT_arguments rm_TT_arguments (va_Pc [.ref (ad 13), .int x] (fun U => va_P D vwCl [(ad 13, .inr (0, [.ref (ad 14), .ref (ad 0), .ref (ad 11), .ref (ad 16)])), (ad 0, .inr (5, [.ref (ad 1), .ref (ad 3), .ref (ad 4), .ref (ad 5), .ref (ad 6), .ref (ad 7), .ref (ad 8), .ref (ad 9), .ref (ad 10), .int (nI n)])), (ad 3, .inl (cI, 4096, .inl (r 0))), (ad 4, .inl (cI, 4096, .inl (r 1))), (ad 5, .inl (cI, 4096, .inl (r 2))), (ad 6, .inl (cI, 4096, .inl (r 3))), (ad 7, .inl (cI, 4096, .inl (r 4))), (ad 8, .inl (cI, 4096, .inl (r 5))), (ad 9, .inl (cI, 4096, .inl (r 6))), (ad 10, .inl (cI, 4096, .inl (r 7)))] U.heap ∧ va_K D vwCl (tt_ty cI cB cL) U)) (q_TT_arguments D cI cB cL ad r n x) 0 0 (fun _ => False) := by
  refine Met.ofW (cc := b_TT_arguments) (maxL := 2) (ret := (some .int)) (by decide) rfl ?_
  intro p e s m args below meth c s₁ B hml hv
  obtain ⟨rfl, hP, hK⟩ := hv
  have hx := B.exec
  have hb := B.bytes
  have hr := B.returns
  have hts := atoms_spec (ws := w_TT_arguments) B.pre
  have htT : ∀ w ∈ tt_T, w.before _ s = true := fun w h => hts w (List.mem_cons_of_mem _ h)
  have hown : s.vm.findClass R_TT = some m.cls := findClass_of_methodNamed B.named
  have hlocks := B.notSynchronized
  have hS : va_S (fun _ => False) s.heap s.heap [] := va_S.rf
  have hl := lv_entry ([.ref (ad 13), .int x]) (n := 2) (Nat.le_of_ble_eq_true rfl)
  rw [lg_entry_eq]
  generalize (lg_sl ([.ref (ad 13), .int x]) ++ List.replicate (2 - (lg_sl ([.ref (ad 13), .int x])).length) Slot.unset).toArray = ls at hl ⊢
  have hl : lv_has ls 2 [(0, .ref (ad 13)), (1, .int x)] := hl
  have hP : va_P D vwCl [(ad 13, .inr (0, [.ref (ad 14), .ref (ad 0), .ref (ad 11), .ref (ad 16)])), (ad 0, .inr (5, [.ref (ad 1), .ref (ad 3), .ref (ad 4), .ref (ad 5), .ref (ad 6), .ref (ad 7), .ref (ad 8), .ref (ad 9), .ref (ad 10), .int (nI n)])), (ad 3, .inl (cI, 4096, .inl (r 0))), (ad 4, .inl (cI, 4096, .inl (r 1))), (ad 5, .inl (cI, 4096, .inl (r 2))), (ad 6, .inl (cI, 4096, .inl (r 3))), (ad 7, .inl (cI, 4096, .inl (r 4))), (ad 8, .inl (cI, 4096, .inl (r 5))), (ad 9, .inl (cI, 4096, .inl (r 6))), (ad 10, .inl (cI, 4096, .inl (r 7)))] s.heap := hP
  refine lv_aload_n hx hb d_TT_arguments_0 rfl (lv_at hl 0 rfl) ?_
  refine va_get (D := D) (ci := 0) (v := .ref (ad 0)) (C := R_TT) (T := F_TT) (N := 4) hx hb htT i_TT hown hK hP 0 rfl rfl 1 (by decide) (htT _ k_153) (fun _ h9 => h9) rfl d_TT_arguments_1 ?_
  refine lv_aload_n hx hb d_TT_arguments_4 rfl (lv_at hl 0 rfl) ?_
  refine va_get (D := D) (ci := 0) (v := .ref (ad 0)) (C := R_TT) (T := F_TT) (N := 4) hx hb htT i_TT hown hK hP 0 rfl rfl 1 (by decide) (htT _ k_153) (fun _ h9 => h9) rfl d_TT_arguments_5 ?_
  refine va_get (D := D) (ci := 5) (v := .ref (ad 5)) (C := R_TM) (T := F_TM) (N := 10) hx hb htT i_TM hown hK hP 1 rfl rfl 3 (by decide) (htT _ k_66) (fun _ h9 => h9) rfl d_TT_arguments_8 ?_
  refine lv_iload_n hx hb d_TT_arguments_11 rfl (lv_at hl 1 rfl) ?_
  refine tt_roI (va_runV (As := [.ref (ad 5), .int x]) (rest := []) ⟨hx, hb, hml, hown, hts⟩ (c_TM_in l D cI cB cL ad n (ad 5) (r 2) x) (cwV 2 hts (tt_gV k_405 k_262 k_263 k_3 k_264) rfl rfl rfl hv_TM_in ⟨Nat.le_of_ble_eq_true rfl, Nat.le_of_ble_eq_true rfl⟩) (tt_ropreV (w := [(ad 0, .inr (5, [.ref (ad 1), .ref (ad 3), .ref (ad 4), .ref (ad 5), .ref (ad 6), .ref (ad 7), .ref (ad 8), .ref (ad 9), .ref (ad 10), .int (nI n)])), (ad 5, .inl (cI, 4096, .inl (r 2)))]) hK hP [1, 4] rfl (va_recv hK hP (ci := 5) (q0 := 1) rfl rfl)) rfl rfl hl.1 rfl (lv_room (Nat.le_of_ble_eq_true rfl)) d_TT_arguments_12 ⟨Nat.zero_le _, Nat.zero_le _⟩) hS hP (fun H locs hP hS => ?_)
  have o_r : (tt_in (r 2) n x) = (tt_in (r 2) n x) := rfl
  exact W.iret (v := tt_in (r 2) n x) hx hb hr (fun t ht hW => ⟨⟨_, (), rfl, o_r, trivial⟩, hS.F ht⟩) hS.2.2 d_TT_arguments_15
abbrev rm_TT_size : Room := { frames := 1, cells := 0, slots := 0, locals := 22 }
abbrev q_TT_size (D : va_G) (cI cB cL : ClassId) (ad : Nat → Nat) (r : Nat → Nat → Int32) (n : Nat) (x : Int32) : Array Value → State → Outcome → State → Prop := va_Qi (fun r9 (_ : Unit) => r9 = (tt_in (r 3) n x)) (fun _ _ => True) (fun _ => False)
set_option maxHeartbeats 4000000 in
set_option maxRecDepth 100000 in
theorem c_TT_size (l : Launch) (D : va_G) (cI cB cL : ClassId) (ad : Nat → Nat) (r : Nat → Nat → Int32) (n : Nat) (x : Int32) : Met l y_TT_size w_TT_size rm_TT_size (va_Pc [.ref (ad 13), .int x] (fun U => va_P D vwCl [(ad 13, .inr (0, [.ref (ad 14), .ref (ad 0), .ref (ad 11), .ref (ad 16)])), (ad 0, .inr (5, [.ref (ad 1), .ref (ad 3), .ref (ad 4), .ref (ad 5), .ref (ad 6), .ref (ad 7), .ref (ad 8), .ref (ad 9), .ref (ad 10), .int (nI n)])), (ad 3, .inl (cI, 4096, .inl (r 0))), (ad 4, .inl (cI, 4096, .inl (r 1))), (ad 5, .inl (cI, 4096, .inl (r 2))), (ad 6, .inl (cI, 4096, .inl (r 3))), (ad 7, .inl (cI, 4096, .inl (r 4))), (ad 8, .inl (cI, 4096, .inl (r 5))), (ad 9, .inl (cI, 4096, .inl (r 6))), (ad 10, .inl (cI, 4096, .inl (r 7)))] U.heap ∧ va_K D vwCl (tt_ty cI cB cL) U)) (q_TT_size D cI cB cL ad r n x) 0 0 (fun _ => False) := by
  refine Met.ofW (cc := b_TT_size) (maxL := 2) (ret := (some .int)) (by decide) rfl ?_
  intro p e s m args below meth c s₁ B hml hv
  obtain ⟨rfl, hP, hK⟩ := hv
  have hx := B.exec
  have hb := B.bytes
  have hr := B.returns
  have hts := atoms_spec (ws := w_TT_size) B.pre
  have htT : ∀ w ∈ tt_T, w.before _ s = true := fun w h => hts w (List.mem_cons_of_mem _ h)
  have hown : s.vm.findClass R_TT = some m.cls := findClass_of_methodNamed B.named
  have hlocks := B.notSynchronized
  have hS : va_S (fun _ => False) s.heap s.heap [] := va_S.rf
  have hl := lv_entry ([.ref (ad 13), .int x]) (n := 2) (Nat.le_of_ble_eq_true rfl)
  rw [lg_entry_eq]
  generalize (lg_sl ([.ref (ad 13), .int x]) ++ List.replicate (2 - (lg_sl ([.ref (ad 13), .int x])).length) Slot.unset).toArray = ls at hl ⊢
  have hl : lv_has ls 2 [(0, .ref (ad 13)), (1, .int x)] := hl
  have hP : va_P D vwCl [(ad 13, .inr (0, [.ref (ad 14), .ref (ad 0), .ref (ad 11), .ref (ad 16)])), (ad 0, .inr (5, [.ref (ad 1), .ref (ad 3), .ref (ad 4), .ref (ad 5), .ref (ad 6), .ref (ad 7), .ref (ad 8), .ref (ad 9), .ref (ad 10), .int (nI n)])), (ad 3, .inl (cI, 4096, .inl (r 0))), (ad 4, .inl (cI, 4096, .inl (r 1))), (ad 5, .inl (cI, 4096, .inl (r 2))), (ad 6, .inl (cI, 4096, .inl (r 3))), (ad 7, .inl (cI, 4096, .inl (r 4))), (ad 8, .inl (cI, 4096, .inl (r 5))), (ad 9, .inl (cI, 4096, .inl (r 6))), (ad 10, .inl (cI, 4096, .inl (r 7)))] s.heap := hP
  refine lv_aload_n hx hb d_TT_size_0 rfl (lv_at hl 0 rfl) ?_
  refine va_get (D := D) (ci := 0) (v := .ref (ad 0)) (C := R_TT) (T := F_TT) (N := 4) hx hb htT i_TT hown hK hP 0 rfl rfl 1 (by decide) (htT _ k_153) (fun _ h9 => h9) rfl d_TT_size_1 ?_
  refine lv_aload_n hx hb d_TT_size_4 rfl (lv_at hl 0 rfl) ?_
  refine va_get (D := D) (ci := 0) (v := .ref (ad 0)) (C := R_TT) (T := F_TT) (N := 4) hx hb htT i_TT hown hK hP 0 rfl rfl 1 (by decide) (htT _ k_153) (fun _ h9 => h9) rfl d_TT_size_5 ?_
  refine va_get (D := D) (ci := 5) (v := .ref (ad 6)) (C := R_TM) (T := F_TM) (N := 10) hx hb htT i_TM hown hK hP 1 rfl rfl 4 (by decide) (htT _ k_68) (fun _ h9 => h9) rfl d_TT_size_8 ?_
  refine lv_iload_n hx hb d_TT_size_11 rfl (lv_at hl 1 rfl) ?_
  refine tt_roI (va_runV (As := [.ref (ad 6), .int x]) (rest := []) ⟨hx, hb, hml, hown, hts⟩ (c_TM_in l D cI cB cL ad n (ad 6) (r 3) x) (cwV 2 hts (tt_gV k_405 k_262 k_263 k_3 k_264) rfl rfl rfl hv_TM_in ⟨Nat.le_of_ble_eq_true rfl, Nat.le_of_ble_eq_true rfl⟩) (tt_ropreV (w := [(ad 0, .inr (5, [.ref (ad 1), .ref (ad 3), .ref (ad 4), .ref (ad 5), .ref (ad 6), .ref (ad 7), .ref (ad 8), .ref (ad 9), .ref (ad 10), .int (nI n)])), (ad 6, .inl (cI, 4096, .inl (r 3)))]) hK hP [1, 5] rfl (va_recv hK hP (ci := 5) (q0 := 1) rfl rfl)) rfl rfl hl.1 rfl (lv_room (Nat.le_of_ble_eq_true rfl)) d_TT_size_12 ⟨Nat.zero_le _, Nat.zero_le _⟩) hS hP (fun H locs hP hS => ?_)
  have o_r : (tt_in (r 3) n x) = (tt_in (r 3) n x) := rfl
  exact W.iret (v := tt_in (r 3) n x) hx hb hr (fun t ht hW => ⟨⟨_, (), rfl, o_r, trivial⟩, hS.F ht⟩) hS.2.2 d_TT_size_15
abbrev rm_TT_begins : Room := { frames := 1, cells := 0, slots := 0, locals := 22 }
abbrev q_TT_begins (D : va_G) (cI cB cL : ClassId) (ad : Nat → Nat) (r : Nat → Nat → Int32) (n : Nat) (x : Int32) : Array Value → State → Outcome → State → Prop := va_Qi (fun r9 (_ : Unit) => r9 = (tt_in (r 4) n x)) (fun _ _ => True) (fun _ => False)
set_option maxHeartbeats 4000000 in
set_option maxRecDepth 100000 in
theorem c_TT_begins (l : Launch) (D : va_G) (cI cB cL : ClassId) (ad : Nat → Nat) (r : Nat → Nat → Int32) (n : Nat) (x : Int32) : Met l y_TT_begins w_TT_begins rm_TT_begins (va_Pc [.ref (ad 13), .int x] (fun U => va_P D vwCl [(ad 13, .inr (0, [.ref (ad 14), .ref (ad 0), .ref (ad 11), .ref (ad 16)])), (ad 0, .inr (5, [.ref (ad 1), .ref (ad 3), .ref (ad 4), .ref (ad 5), .ref (ad 6), .ref (ad 7), .ref (ad 8), .ref (ad 9), .ref (ad 10), .int (nI n)])), (ad 3, .inl (cI, 4096, .inl (r 0))), (ad 4, .inl (cI, 4096, .inl (r 1))), (ad 5, .inl (cI, 4096, .inl (r 2))), (ad 6, .inl (cI, 4096, .inl (r 3))), (ad 7, .inl (cI, 4096, .inl (r 4))), (ad 8, .inl (cI, 4096, .inl (r 5))), (ad 9, .inl (cI, 4096, .inl (r 6))), (ad 10, .inl (cI, 4096, .inl (r 7)))] U.heap ∧ va_K D vwCl (tt_ty cI cB cL) U)) (q_TT_begins D cI cB cL ad r n x) 0 0 (fun _ => False) := by
  refine Met.ofW (cc := b_TT_begins) (maxL := 2) (ret := (some .int)) (by decide) rfl ?_
  intro p e s m args below meth c s₁ B hml hv
  obtain ⟨rfl, hP, hK⟩ := hv
  have hx := B.exec
  have hb := B.bytes
  have hr := B.returns
  have hts := atoms_spec (ws := w_TT_begins) B.pre
  have htT : ∀ w ∈ tt_T, w.before _ s = true := fun w h => hts w (List.mem_cons_of_mem _ h)
  have hown : s.vm.findClass R_TT = some m.cls := findClass_of_methodNamed B.named
  have hlocks := B.notSynchronized
  have hS : va_S (fun _ => False) s.heap s.heap [] := va_S.rf
  have hl := lv_entry ([.ref (ad 13), .int x]) (n := 2) (Nat.le_of_ble_eq_true rfl)
  rw [lg_entry_eq]
  generalize (lg_sl ([.ref (ad 13), .int x]) ++ List.replicate (2 - (lg_sl ([.ref (ad 13), .int x])).length) Slot.unset).toArray = ls at hl ⊢
  have hl : lv_has ls 2 [(0, .ref (ad 13)), (1, .int x)] := hl
  have hP : va_P D vwCl [(ad 13, .inr (0, [.ref (ad 14), .ref (ad 0), .ref (ad 11), .ref (ad 16)])), (ad 0, .inr (5, [.ref (ad 1), .ref (ad 3), .ref (ad 4), .ref (ad 5), .ref (ad 6), .ref (ad 7), .ref (ad 8), .ref (ad 9), .ref (ad 10), .int (nI n)])), (ad 3, .inl (cI, 4096, .inl (r 0))), (ad 4, .inl (cI, 4096, .inl (r 1))), (ad 5, .inl (cI, 4096, .inl (r 2))), (ad 6, .inl (cI, 4096, .inl (r 3))), (ad 7, .inl (cI, 4096, .inl (r 4))), (ad 8, .inl (cI, 4096, .inl (r 5))), (ad 9, .inl (cI, 4096, .inl (r 6))), (ad 10, .inl (cI, 4096, .inl (r 7)))] s.heap := hP
  refine lv_aload_n hx hb d_TT_begins_0 rfl (lv_at hl 0 rfl) ?_
  refine va_get (D := D) (ci := 0) (v := .ref (ad 0)) (C := R_TT) (T := F_TT) (N := 4) hx hb htT i_TT hown hK hP 0 rfl rfl 1 (by decide) (htT _ k_153) (fun _ h9 => h9) rfl d_TT_begins_1 ?_
  refine lv_aload_n hx hb d_TT_begins_4 rfl (lv_at hl 0 rfl) ?_
  refine va_get (D := D) (ci := 0) (v := .ref (ad 0)) (C := R_TT) (T := F_TT) (N := 4) hx hb htT i_TT hown hK hP 0 rfl rfl 1 (by decide) (htT _ k_153) (fun _ h9 => h9) rfl d_TT_begins_5 ?_
  refine va_get (D := D) (ci := 5) (v := .ref (ad 7)) (C := R_TM) (T := F_TM) (N := 10) hx hb htT i_TM hown hK hP 1 rfl rfl 5 (by decide) (htT _ k_70) (fun _ h9 => h9) rfl d_TT_begins_8 ?_
  refine lv_iload_n hx hb d_TT_begins_11 rfl (lv_at hl 1 rfl) ?_
  refine tt_roI (va_runV (As := [.ref (ad 7), .int x]) (rest := []) ⟨hx, hb, hml, hown, hts⟩ (c_TM_in l D cI cB cL ad n (ad 7) (r 4) x) (cwV 2 hts (tt_gV k_405 k_262 k_263 k_3 k_264) rfl rfl rfl hv_TM_in ⟨Nat.le_of_ble_eq_true rfl, Nat.le_of_ble_eq_true rfl⟩) (tt_ropreV (w := [(ad 0, .inr (5, [.ref (ad 1), .ref (ad 3), .ref (ad 4), .ref (ad 5), .ref (ad 6), .ref (ad 7), .ref (ad 8), .ref (ad 9), .ref (ad 10), .int (nI n)])), (ad 7, .inl (cI, 4096, .inl (r 4)))]) hK hP [1, 6] rfl (va_recv hK hP (ci := 5) (q0 := 1) rfl rfl)) rfl rfl hl.1 rfl (lv_room (Nat.le_of_ble_eq_true rfl)) d_TT_begins_12 ⟨Nat.zero_le _, Nat.zero_le _⟩) hS hP (fun H locs hP hS => ?_)
  have o_r : (tt_in (r 4) n x) = (tt_in (r 4) n x) := rfl
  exact W.iret (v := tt_in (r 4) n x) hx hb hr (fun t ht hW => ⟨⟨_, (), rfl, o_r, trivial⟩, hS.F ht⟩) hS.2.2 d_TT_begins_15
abbrev rm_TT_ends : Room := { frames := 1, cells := 0, slots := 0, locals := 22 }
abbrev q_TT_ends (D : va_G) (cI cB cL : ClassId) (ad : Nat → Nat) (r : Nat → Nat → Int32) (n : Nat) (x : Int32) : Array Value → State → Outcome → State → Prop := va_Qi (fun r9 (_ : Unit) => r9 = (tt_in (r 5) n x)) (fun _ _ => True) (fun _ => False)
set_option maxHeartbeats 4000000 in
set_option maxRecDepth 100000 in
theorem c_TT_ends (l : Launch) (D : va_G) (cI cB cL : ClassId) (ad : Nat → Nat) (r : Nat → Nat → Int32) (n : Nat) (x : Int32) : Met l y_TT_ends w_TT_ends rm_TT_ends (va_Pc [.ref (ad 13), .int x] (fun U => va_P D vwCl [(ad 13, .inr (0, [.ref (ad 14), .ref (ad 0), .ref (ad 11), .ref (ad 16)])), (ad 0, .inr (5, [.ref (ad 1), .ref (ad 3), .ref (ad 4), .ref (ad 5), .ref (ad 6), .ref (ad 7), .ref (ad 8), .ref (ad 9), .ref (ad 10), .int (nI n)])), (ad 3, .inl (cI, 4096, .inl (r 0))), (ad 4, .inl (cI, 4096, .inl (r 1))), (ad 5, .inl (cI, 4096, .inl (r 2))), (ad 6, .inl (cI, 4096, .inl (r 3))), (ad 7, .inl (cI, 4096, .inl (r 4))), (ad 8, .inl (cI, 4096, .inl (r 5))), (ad 9, .inl (cI, 4096, .inl (r 6))), (ad 10, .inl (cI, 4096, .inl (r 7)))] U.heap ∧ va_K D vwCl (tt_ty cI cB cL) U)) (q_TT_ends D cI cB cL ad r n x) 0 0 (fun _ => False) := by
  refine Met.ofW (cc := b_TT_ends) (maxL := 2) (ret := (some .int)) (by decide) rfl ?_
  intro p e s m args below meth c s₁ B hml hv
  obtain ⟨rfl, hP, hK⟩ := hv
  have hx := B.exec
  have hb := B.bytes
  have hr := B.returns
  have hts := atoms_spec (ws := w_TT_ends) B.pre
  have htT : ∀ w ∈ tt_T, w.before _ s = true := fun w h => hts w (List.mem_cons_of_mem _ h)
  have hown : s.vm.findClass R_TT = some m.cls := findClass_of_methodNamed B.named
  have hlocks := B.notSynchronized
  have hS : va_S (fun _ => False) s.heap s.heap [] := va_S.rf
  have hl := lv_entry ([.ref (ad 13), .int x]) (n := 2) (Nat.le_of_ble_eq_true rfl)
  rw [lg_entry_eq]
  generalize (lg_sl ([.ref (ad 13), .int x]) ++ List.replicate (2 - (lg_sl ([.ref (ad 13), .int x])).length) Slot.unset).toArray = ls at hl ⊢
  have hl : lv_has ls 2 [(0, .ref (ad 13)), (1, .int x)] := hl
  have hP : va_P D vwCl [(ad 13, .inr (0, [.ref (ad 14), .ref (ad 0), .ref (ad 11), .ref (ad 16)])), (ad 0, .inr (5, [.ref (ad 1), .ref (ad 3), .ref (ad 4), .ref (ad 5), .ref (ad 6), .ref (ad 7), .ref (ad 8), .ref (ad 9), .ref (ad 10), .int (nI n)])), (ad 3, .inl (cI, 4096, .inl (r 0))), (ad 4, .inl (cI, 4096, .inl (r 1))), (ad 5, .inl (cI, 4096, .inl (r 2))), (ad 6, .inl (cI, 4096, .inl (r 3))), (ad 7, .inl (cI, 4096, .inl (r 4))), (ad 8, .inl (cI, 4096, .inl (r 5))), (ad 9, .inl (cI, 4096, .inl (r 6))), (ad 10, .inl (cI, 4096, .inl (r 7)))] s.heap := hP
  refine lv_aload_n hx hb d_TT_ends_0 rfl (lv_at hl 0 rfl) ?_
  refine va_get (D := D) (ci := 0) (v := .ref (ad 0)) (C := R_TT) (T := F_TT) (N := 4) hx hb htT i_TT hown hK hP 0 rfl rfl 1 (by decide) (htT _ k_153) (fun _ h9 => h9) rfl d_TT_ends_1 ?_
  refine lv_aload_n hx hb d_TT_ends_4 rfl (lv_at hl 0 rfl) ?_
  refine va_get (D := D) (ci := 0) (v := .ref (ad 0)) (C := R_TT) (T := F_TT) (N := 4) hx hb htT i_TT hown hK hP 0 rfl rfl 1 (by decide) (htT _ k_153) (fun _ h9 => h9) rfl d_TT_ends_5 ?_
  refine va_get (D := D) (ci := 5) (v := .ref (ad 8)) (C := R_TM) (T := F_TM) (N := 10) hx hb htT i_TM hown hK hP 1 rfl rfl 6 (by decide) (htT _ k_72) (fun _ h9 => h9) rfl d_TT_ends_8 ?_
  refine lv_iload_n hx hb d_TT_ends_11 rfl (lv_at hl 1 rfl) ?_
  refine tt_roI (va_runV (As := [.ref (ad 8), .int x]) (rest := []) ⟨hx, hb, hml, hown, hts⟩ (c_TM_in l D cI cB cL ad n (ad 8) (r 5) x) (cwV 2 hts (tt_gV k_405 k_262 k_263 k_3 k_264) rfl rfl rfl hv_TM_in ⟨Nat.le_of_ble_eq_true rfl, Nat.le_of_ble_eq_true rfl⟩) (tt_ropreV (w := [(ad 0, .inr (5, [.ref (ad 1), .ref (ad 3), .ref (ad 4), .ref (ad 5), .ref (ad 6), .ref (ad 7), .ref (ad 8), .ref (ad 9), .ref (ad 10), .int (nI n)])), (ad 8, .inl (cI, 4096, .inl (r 5)))]) hK hP [1, 7] rfl (va_recv hK hP (ci := 5) (q0 := 1) rfl rfl)) rfl rfl hl.1 rfl (lv_room (Nat.le_of_ble_eq_true rfl)) d_TT_ends_12 ⟨Nat.zero_le _, Nat.zero_le _⟩) hS hP (fun H locs hP hS => ?_)
  have o_r : (tt_in (r 5) n x) = (tt_in (r 5) n x) := rfl
  exact W.iret (v := tt_in (r 5) n x) hx hb hr (fun t ht hW => ⟨⟨_, (), rfl, o_r, trivial⟩, hS.F ht⟩) hS.2.2 d_TT_ends_15
abbrev rm_TT_argument : Room := { frames := 2, cells := 0, slots := 0, locals := 46 }
abbrev q_TT_argument (D : va_G) (cI cB cL : ClassId) (ad : Nat → Nat) (r : Nat → Nat → Int32) (n : Nat) (x i : Int32) : Array Value → State → Outcome → State → Prop := va_Qi (fun r9 (_ : Unit) => r9 = (tt_child r n x i)) (fun _ _ => True) (fun _ => False)
set_option maxHeartbeats 4000000 in
set_option maxRecDepth 100000 in
theorem c_TT_argument (l : Launch) (D : va_G) (cI cB cL : ClassId) (ad : Nat → Nat) (r : Nat → Nat → Int32) (n : Nat) (x i : Int32) (hm : n ≤ 4096) : Met l y_TT_argument w_TT_argument rm_TT_argument (va_Pc [.ref (ad 13), .int x, .int i] (fun U => va_P D vwCl [(ad 13, .inr (0, [.ref (ad 14), .ref (ad 0), .ref (ad 11), .ref (ad 16)])), (ad 0, .inr (5, [.ref (ad 1), .ref (ad 3), .ref (ad 4), .ref (ad 5), .ref (ad 6), .ref (ad 7), .ref (ad 8), .ref (ad 9), .ref (ad 10), .int (nI n)])), (ad 3, .inl (cI, 4096, .inl (r 0))), (ad 4, .inl (cI, 4096, .inl (r 1))), (ad 5, .inl (cI, 4096, .inl (r 2))), (ad 6, .inl (cI, 4096, .inl (r 3))), (ad 7, .inl (cI, 4096, .inl (r 4))), (ad 8, .inl (cI, 4096, .inl (r 5))), (ad 9, .inl (cI, 4096, .inl (r 6))), (ad 10, .inl (cI, 4096, .inl (r 7)))] U.heap ∧ va_K D vwCl (tt_ty cI cB cL) U)) (q_TT_argument D cI cB cL ad r n x i) 0 0 (fun _ => False) := by
  refine Met.ofW (cc := b_TT_argument) (maxL := 3) (ret := (some .int)) (by decide) rfl ?_
  intro p e s m args below meth c s₁ B hml hv
  obtain ⟨rfl, hP, hK⟩ := hv
  have hx := B.exec
  have hb := B.bytes
  have hr := B.returns
  have hts := atoms_spec (ws := w_TT_argument) B.pre
  have htT : ∀ w ∈ tt_T, w.before _ s = true := fun w h => hts w (List.mem_cons_of_mem _ h)
  have hown : s.vm.findClass R_TT = some m.cls := findClass_of_methodNamed B.named
  have hlocks := B.notSynchronized
  have hS : va_S (fun _ => False) s.heap s.heap [] := va_S.rf
  have hl := lv_entry ([.ref (ad 13), .int x, .int i]) (n := 3) (Nat.le_of_ble_eq_true rfl)
  rw [lg_entry_eq]
  generalize (lg_sl ([.ref (ad 13), .int x, .int i]) ++ List.replicate (3 - (lg_sl ([.ref (ad 13), .int x, .int i])).length) Slot.unset).toArray = ls at hl ⊢
  have hl : lv_has ls 3 [(0, .ref (ad 13)), (1, .int x), (2, .int i)] := hl
  have hP : va_P D vwCl [(ad 13, .inr (0, [.ref (ad 14), .ref (ad 0), .ref (ad 11), .ref (ad 16)])), (ad 0, .inr (5, [.ref (ad 1), .ref (ad 3), .ref (ad 4), .ref (ad 5), .ref (ad 6), .ref (ad 7), .ref (ad 8), .ref (ad 9), .ref (ad 10), .int (nI n)])), (ad 3, .inl (cI, 4096, .inl (r 0))), (ad 4, .inl (cI, 4096, .inl (r 1))), (ad 5, .inl (cI, 4096, .inl (r 2))), (ad 6, .inl (cI, 4096, .inl (r 3))), (ad 7, .inl (cI, 4096, .inl (r 4))), (ad 8, .inl (cI, 4096, .inl (r 5))), (ad 9, .inl (cI, 4096, .inl (r 6))), (ad 10, .inl (cI, 4096, .inl (r 7)))] s.heap := hP
  refine lv_aload_n hx hb d_TT_argument_0 rfl (lv_at hl 0 rfl) ?_
  refine va_get (D := D) (ci := 0) (v := .ref (ad 0)) (C := R_TT) (T := F_TT) (N := 4) hx hb htT i_TT hown hK hP 0 rfl rfl 1 (by decide) (htT _ k_153) (fun _ h9 => h9) rfl d_TT_argument_1 ?_
  refine lv_iload_n hx hb d_TT_argument_4 rfl (lv_at hl 1 rfl) ?_
  refine lv_iload_n hx hb d_TT_argument_5 rfl (lv_at hl 2 rfl) ?_
  refine tt_roI (va_runV (As := [.int x, .int i]) (rest := []) ⟨hx, hb, hml, hown, hts⟩ (c_TM_child l D cI cB cL ad r n x i (by omega)) (cwV 2 hts (tt_gV k_418 k_419 k_420 k_3 k_421) rfl rfl rfl hv_TM_child ⟨Nat.le_of_ble_eq_true rfl, Nat.le_of_ble_eq_true rfl⟩) (tt_ropreV (w := [(ad 0, .inr (5, [.ref (ad 1), .ref (ad 3), .ref (ad 4), .ref (ad 5), .ref (ad 6), .ref (ad 7), .ref (ad 8), .ref (ad 9), .ref (ad 10), .int (nI n)])), (ad 3, .inl (cI, 4096, .inl (r 0))), (ad 4, .inl (cI, 4096, .inl (r 1))), (ad 5, .inl (cI, 4096, .inl (r 2))), (ad 6, .inl (cI, 4096, .inl (r 3))), (ad 7, .inl (cI, 4096, .inl (r 4))), (ad 8, .inl (cI, 4096, .inl (r 5))), (ad 9, .inl (cI, 4096, .inl (r 6))), (ad 10, .inl (cI, 4096, .inl (r 7)))]) hK hP [1, 2, 3, 4, 5, 6, 7, 8, 9] rfl (va_recv hK hP (ci := 5) (q0 := 1) rfl rfl)) rfl rfl hl.1 rfl (lv_room (Nat.le_of_ble_eq_true rfl)) d_TT_argument_6 ⟨Nat.zero_le _, Nat.zero_le _⟩) hS hP (fun H locs hP hS => ?_)
  have o_r : (tt_child r n x i) = (tt_child r n x i) := rfl
  exact W.iret (v := tt_child r n x i) hx hb hr (fun t ht hW => ⟨⟨_, (), rfl, o_r, trivial⟩, hS.F ht⟩) hS.2.2 d_TT_argument_9
