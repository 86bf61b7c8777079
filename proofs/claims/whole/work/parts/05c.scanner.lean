abbrev rm_SC_restart : Room := { frames := 0, cells := 0, slots := 0, locals := 0 }
abbrev q_SC_restart (D : va_G) (cI cB cL : ClassId) (q : Nat) (tk x y : Int32) (A : Nat → Prop) : Array Value → State → Outcome → State → Prop := va_Qv (fun _ => True) (fun (_ : Unit) t => va_P D vwCl [(q, .inr (4, [.int tk, .int (nI 0), .int (nI 0)]))] t.heap ∧ va_D A [(q, .inr (4, [.int tk, .int (nI 0), .int (nI 0)]))]) A
set_option maxHeartbeats 4000000 in
set_option maxRecDepth 100000 in
theorem c_SC_restart (l : Launch) (D : va_G) (cI cB cL : ClassId) (q : Nat) (tk x y : Int32) (sz : Nat) : Met l y_SC_restart w_SC_restart rm_SC_restart (va_Pc [.ref q] (fun U => U.heap.size = sz ∧ va_P D vwCl [(q, .inr (4, [.int tk, .int x, .int y]))] U.heap ∧ va_K D vwCl (tt_ty cI cB cL) U ∧ va_D (fun _ => True) [(q, .inr (4, [.int tk, .int x, .int y]))])) (q_SC_restart D cI cB cL q tk x y (va_A [(q, .inr (4, [.int tk, .int x, .int y]))] sz)) 0 0 (va_A [(q, .inr (4, [.int tk, .int x, .int y]))] sz) := by
  refine Met.ofW (cc := b_SC_restart) (maxL := 1) (ret := none) (by decide) rfl ?_
  intro p e s m args below meth c s₁ B hml hv
  obtain ⟨rfl, hsz, hP, hK, hD0⟩ := hv
  have hx := B.exec
  have hb := B.bytes
  have hr := B.returns
  have hts := atoms_spec (ws := w_SC_restart) B.pre
  have htT : ∀ w ∈ tt_T, w.before _ s = true := fun w h => hts w (List.mem_cons_of_mem _ h)
  have hown : s.vm.findClass R_SC = some m.cls := findClass_of_methodNamed B.named
  have hlocks := B.notSynchronized
  subst hsz
  have hD := hD0.self (sz := s.heap.size)
  generalize hAe : va_A [(q, .inr (4, [.int tk, .int x, .int y]))] s.heap.size = A at hD ⊢
  have hA : ∀ q : Nat, s.heap.size ≤ q → A q := fun q h => by rw [← hAe]; exact Or.inr h
  have hS : va_S A s.heap s.heap [] := va_S.rf
  have hl := lv_entry ([.ref q]) (n := 1) (Nat.le_of_ble_eq_true rfl)
  rw [lg_entry_eq]
  generalize (lg_sl ([.ref q]) ++ List.replicate (1 - (lg_sl ([.ref q])).length) Slot.unset).toArray = ls at hl ⊢
  have hl : lv_has ls 1 [(0, .ref q)] := hl
  have hP : va_P D vwCl [(q, .inr (4, [.int tk, .int x, .int y]))] s.heap := hP
  refine lv_aload_n hx hb d_SC_restart_0 rfl (lv_at hl 0 rfl) ?_
  refine lv_iconst (v := 0) hx hb d_SC_restart_1 (by decide) ?_
  refine va_put (D := D) (ci := 4) (v := .int 0) (ty := .int) (C := R_SC) (T := F_SC) (N := 3) hx hb htT i_SC t_SC t_SC_ok n_SC hown hK hP hD hS 0 rfl rfl 1 (by decide) (htT _ k_115) (fun _ h9 => h9) rfl (by decide +kernel) rfl rfl (Nat.le_of_ble_eq_true rfl) d_SC_restart_2 (fun H locs hP hD hS => ?_)
  have hP : va_P D vwCl [(q, .inr (4, [.int tk, .int 0, .int y]))] H := hP
  have hD : va_D A [(q, .inr (4, [.int tk, .int 0, .int y]))] := hD
  refine lv_aload_n hx hb d_SC_restart_5 rfl (lv_at hl 0 rfl) ?_
  refine lv_iconst (v := 0) hx hb d_SC_restart_6 (by decide) ?_
  refine va_put (D := D) (ci := 4) (v := .int 0) (ty := .int) (C := R_SC) (T := F_SC) (N := 3) hx hb htT i_SC t_SC t_SC_ok n_SC hown hK hP hD hS 0 rfl rfl 2 (by decide) (htT _ k_117) (fun _ h9 => h9) rfl (by decide +kernel) rfl rfl (Nat.le_of_ble_eq_true rfl) d_SC_restart_7 (fun H locs hP hD hS => ?_)
  have hP : va_P D vwCl [(q, .inr (4, [.int tk, .int 0, .int 0]))] H := hP
  have hD : va_D A [(q, .inr (4, [.int tk, .int 0, .int 0]))] := hD
  have hP9 : va_P D vwCl [(q, .inr (4, [.int tk, .int (nI 0), .int (nI 0)]))] H := hP.sub [0] rfl
  have hD9 : va_D A [(q, .inr (4, [.int tk, .int (nI 0), .int (nI 0)]))] := hD.sub [0] (by decide) rfl
  exact W.vret hx hb hr (fun t ht hW => ⟨⟨(), rfl, trivial, by rw [ht]; exact hP9, hD9⟩, hS.F ht⟩) hS.2.2 d_SC_restart_10
abbrev rm_SC_behindBlanks : Room := { frames := 1, cells := 0, slots := 0, locals := 21 }
abbrev q_SC_behindBlanks (D : va_G) (cI cB cL : ClassId) (a r : Nat) (f : Nat → Int32) (n : Nat) (i : Nat) : Array Value → State → Outcome → State → Prop := va_Qi (fun r9 (_ : Unit) => r9 = (nI (tt_bl f n false i))) (fun _ _ => True) (fun _ => False)
set_option maxHeartbeats 4000000 in
set_option maxRecDepth 100000 in
theorem c_SC_behindBlanks (l : Launch) (D : va_G) (cI cB cL : ClassId) (a r : Nat) (f : Nat → Int32) (n : Nat) (i : Nat) (hn : n ≤ 16384) (hi : i < 1073741824) : Met l y_SC_behindBlanks w_SC_behindBlanks rm_SC_behindBlanks (va_Pc [.ref a, .int (nI i)] (fun U => va_P D vwCl [(a, .inr (1, [.ref r, .int (nI n)])), (r, .inl (cB, 16384, .inl f))] U.heap ∧ va_K D vwCl (tt_ty cI cB cL) U)) (q_SC_behindBlanks D cI cB cL a r f n i) 0 0 (fun _ => False) := by
  refine Met.ofW (cc := b_SC_behindBlanks) (maxL := 5) (ret := (some .int)) (by decide) rfl ?_
  intro p e s m args below meth c s₁ B hml hv
  obtain ⟨rfl, hP, hK⟩ := hv
  have hx := B.exec
  have hb := B.bytes
  have hr := B.returns
  have hts := atoms_spec (ws := w_SC_behindBlanks) B.pre
  have htT : ∀ w ∈ tt_T, w.before _ s = true := fun w h => hts w (List.mem_cons_of_mem _ h)
  have hown : s.vm.findClass R_SC = some m.cls := findClass_of_methodNamed B.named
  have hlocks := B.notSynchronized
  have hS : va_S (fun _ => False) s.heap s.heap [] := va_S.rf
  have hl := lv_entry ([.ref a, .int (nI i)]) (n := 5) (Nat.le_of_ble_eq_true rfl)
  rw [lg_entry_eq]
  generalize (lg_sl ([.ref a, .int (nI i)]) ++ List.replicate (5 - (lg_sl ([.ref a, .int (nI i)])).length) Slot.unset).toArray = ls at hl ⊢
  have hl : lv_has ls 5 [(0, .ref a), (1, .int (nI i))] := hl
  have hP : va_P D vwCl [(a, .inr (1, [.ref r, .int (nI n)])), (r, .inl (cB, 16384, .inl f))] s.heap := hP
  refine lv_iconst (v := 0) hx hb d_SC_behindBlanks_0 (by decide) ?_
  refine lv_istore_n (lv' := [(2, .int 0), (0, .ref a), (1, .int (nI i))]) hx hb d_SC_behindBlanks_1 rfl hl (by decide) rfl (fun ls hl => ?_)
  refine lv_iload_n hx hb d_SC_behindBlanks_2 rfl (lv_at hl 2 rfl) ?_
  refine lv_istore_n (lv' := [(3, .int (nI i)), (2, .int 0), (0, .ref a), (1, .int (nI i))]) hx hb d_SC_behindBlanks_3 rfl hl (by decide) rfl (fun ls hl => ?_)
  have cut_4 : ∀ (k9 : Nat) (g : Bool) (j : Nat) (_ : n - j < k9) (hj : j ≤ max n i) (he : tt_bl f n g j = tt_bl f n false i) (H : Heap) (locs : List Loc), va_P D vwCl [(a, .inr (1, [.ref r, .int (nI n)])), (r, .inl (cB, 16384, .inl f))] H → va_S (fun _ => False) s.heap H locs → ∀ ls : Array Slot, lv_has ls 5 [(0, .ref a), (2, .int (tt_b g)), (3, .int (nI j))] → W p l e (headSpec w_SC_behindBlanks rm_SC_behindBlanks).room s m ([.ref a, .int (nI i)] : List Value).toArray below meth c H locs 0 0 (MQ below (q_SC_behindBlanks D cI cB cL a r f n i) ([.ref a, .int (nI i)] : List Value).toArray s 0 0 (fun _ => False)) (F0 m 4 ls []) := by
    intro k9
    induction k9 with
    | zero => intro g j h9; exact absurd h9 (Nat.not_lt_zero _)
    | succ k9 ih_4 =>
      intro g j h9 hj he H locs hP hS ls hl
      refine lv_iload_n hx hb d_SC_behindBlanks_4 rfl (lv_at hl 2 rfl) ?_
      refine lv_aload_n hx hb d_SC_behindBlanks_5 rfl (lv_at hl 0 rfl) ?_
      refine va_get (D := D) (ci := 1) (v := .int (nI n)) (C := R_BY) (T := F_BY) (N := 2) hx hb htT i_BY hown hK hP 0 rfl rfl 1 (by decide) (htT _ k_41) (fun _ h9 => h9) rfl d_SC_behindBlanks_6 ?_
      refine lv_icmp_ge (tgt := 63) hx hb d_SC_behindBlanks_9 (by decide) (fun c_9 => ?_) (fun c_9 => ?_)
      · have c_9 : n ≤ j := (nI_leI (a := n) (b := j) (by omega) (by omega)).mp c_9
        refine lv_iload_n hx hb d_SC_behindBlanks_63 rfl (lv_at hl 2 rfl) ?_
        have o_r : (nI j) = (nI (tt_bl f n false i)) := by rw [← he, tt_bl]; simp [c_9, Nat.not_lt.mpr c_9] <;> (intros; omega)
        exact W.iret (v := nI j) hx hb hr (fun t ht hW => ⟨⟨_, (), rfl, o_r, trivial⟩, hS.F ht⟩) hS.2.2 d_SC_behindBlanks_64
      · have c_9 : ¬ n ≤ j := fun z9 => c_9 ((nI_leI (a := n) (b := j) (by omega) (by omega)).mpr z9)
        have c_9 := Nat.not_le.mp c_9
        refine lv_aload_n hx hb d_SC_behindBlanks_12 rfl (lv_at hl 0 rfl) ?_
        refine lv_iload_n hx hb d_SC_behindBlanks_13 rfl (lv_at hl 2 rfl) ?_
        refine tt_roI (va_runV (As := [.int (nI j)]) (rest := []) ⟨hx, hb, hml, hown, hts⟩ (c_BY_at l D cI cB cL a r f n j (by omega) (by omega)) (cwV 1 hts (tt_gV k_207 k_174 k_175 k_2 k_176) rfl rfl rfl hv_BY_at ⟨Nat.le_of_ble_eq_true rfl, Nat.le_of_ble_eq_true rfl⟩) (tt_ropreV (w := [(a, .inr (1, [.ref r, .int (nI n)])), (r, .inl (cB, 16384, .inl f))]) hK hP [0, 1] rfl (va_recv hK hP (ci := 1) (q0 := 0) rfl rfl)) rfl rfl hl.1 rfl (lv_room (Nat.le_of_ble_eq_true rfl)) d_SC_behindBlanks_14 ⟨Nat.zero_le _, Nat.zero_le _⟩) hS hP (fun H locs hP hS => ?_)
        refine lv_istore (lv' := [(4, .int (tt_ch f n j)), (0, .ref a), (2, .int (tt_b g)), (3, .int (nI j))]) hx hb d_SC_behindBlanks_17 hl (by decide) rfl (fun ls hl => ?_)
        refine lv_iload hx hb d_SC_behindBlanks_19 (lv_at hl 0 rfl) ?_
        refine lv_bipush (v := 35) hx hb d_SC_behindBlanks_21 (by decide) ?_
        refine lv_icmp_ne (tgt := 31) hx hb d_SC_behindBlanks_23 (by decide) (fun c_23 => ?_) (fun c_23 => ?_)
        · skip
          refine lv_iload hx hb d_SC_behindBlanks_31 (lv_at hl 0 rfl) ?_
          refine lv_bipush (v := 10) hx hb d_SC_behindBlanks_33 (by decide) ?_
          refine lv_icmp_ne (tgt := 43) hx hb d_SC_behindBlanks_35 (by decide) (fun c_35 => ?_) (fun c_35 => ?_)
          · skip
            refine lv_iload_n hx hb d_SC_behindBlanks_43 rfl (lv_at hl 2 rfl) ?_
            refine lv_if_ne (tgt := 57) hx hb d_SC_behindBlanks_44 (by decide) (fun c_44 => ?_) (fun c_44 => ?_)
            · have c_44 := tt_bn0.mp c_44
              refine lv_iinc (v := nI (j + 1)) (lv' := [(3, .int (nI (j + 1))), (4, .int (tt_ch f n j)), (0, .ref a), (2, .int (tt_b g))]) hx hb d_SC_behindBlanks_57 hl (k := 3) rfl (nI_add j 1) (by decide) rfl (fun ls hl => ?_)
              refine lv_goto (tgt := 4) hx hb d_SC_behindBlanks_60 (by decide) ?_
              exact ih_4 g (j + 1) (by omega) (by omega) (by rw [← he]; (conv => rhs; rw [tt_bl]); simp [c_9, Nat.not_le.mpr c_9, c_23, c_35, c_44]) _ _ (hP.sub (ws' := [(a, .inr (1, [.ref r, .int (nI n)])), (r, .inl (cB, 16384, .inl f))]) [0, 1] rfl) hS ls (lv_sub hl [2, 3, 0] rfl)
            · have c_44 := tt_b0.mp c_44
              refine lv_iload hx hb d_SC_behindBlanks_47 (lv_at hl 0 rfl) ?_
              refine tt_roI (va_runS (As := [.int (tt_ch f n j)]) (rest := []) ⟨hx, hb, hml, hown, hts⟩ (c_CH_isBlank l D cI cB cL (tt_ch f n j)) (va_cwS 1 hts (tt_gS2 k_208 k_209 k_14 k_210) rfl rfl rfl hv_CH_isBlank.2 ⟨Nat.le_of_ble_eq_true rfl, Nat.le_of_ble_eq_true rfl⟩) (tt_ropreS (w := []) hK hP [] rfl) rfl rfl hl.1 rfl (lv_room (Nat.le_of_ble_eq_true rfl)) d_SC_behindBlanks_49 ⟨Nat.zero_le _, Nat.zero_le _⟩) hS hP (fun H locs hP hS => ?_)
              refine lv_if_ne (tgt := 57) hx hb d_SC_behindBlanks_52 (by decide) (fun c_52 => ?_) (fun c_52 => ?_)
              · have c_52 := tt_bn0.mp c_52
                refine lv_iinc (v := nI (j + 1)) (lv' := [(3, .int (nI (j + 1))), (4, .int (tt_ch f n j)), (0, .ref a), (2, .int (tt_b g))]) hx hb d_SC_behindBlanks_57 hl (k := 3) rfl (nI_add j 1) (by decide) rfl (fun ls hl => ?_)
                refine lv_goto (tgt := 4) hx hb d_SC_behindBlanks_60 (by decide) ?_
                exact ih_4 g (j + 1) (by omega) (by omega) (by rw [← he]; (conv => rhs; rw [tt_bl]); simp [c_9, Nat.not_le.mpr c_9, c_23, c_35, c_44, c_52]) _ _ (hP.sub (ws' := [(a, .inr (1, [.ref r, .int (nI n)])), (r, .inl (cB, 16384, .inl f))]) [0, 1] rfl) hS ls (lv_sub hl [2, 3, 0] rfl)
              · have c_52 := tt_b0.mp c_52
                refine lv_iload_n hx hb d_SC_behindBlanks_55 rfl (lv_at hl 3 rfl) ?_
                have o_r : (nI j) = (nI (tt_bl f n false i)) := by rw [← he, tt_bl]; simp [c_9, Nat.not_le.mpr c_9, c_23, c_35, c_44, c_52] <;> (intros; omega)
                exact W.iret (v := nI j) hx hb hr (fun t ht hW => ⟨⟨_, (), rfl, o_r, trivial⟩, hS.F ht⟩) hS.2.2 d_SC_behindBlanks_56
          · skip
            refine lv_iconst (v := 0) hx hb d_SC_behindBlanks_38 (by decide) ?_
            refine lv_istore_n (lv' := [(2, .int 0), (4, .int (tt_ch f n j)), (0, .ref a), (3, .int (nI j))]) hx hb d_SC_behindBlanks_39 rfl hl (by decide) rfl (fun ls hl => ?_)
            refine lv_goto (tgt := 57) hx hb d_SC_behindBlanks_40 (by decide) ?_
            refine lv_iinc (v := nI (j + 1)) (lv' := [(3, .int (nI (j + 1))), (2, .int 0), (4, .int (tt_ch f n j)), (0, .ref a)]) hx hb d_SC_behindBlanks_57 hl (k := 3) rfl (nI_add j 1) (by decide) rfl (fun ls hl => ?_)
            refine lv_goto (tgt := 4) hx hb d_SC_behindBlanks_60 (by decide) ?_
            exact ih_4 false (j + 1) (by omega) (by omega) (by rw [← he]; (conv => rhs; rw [tt_bl]); simp [c_9, Nat.not_le.mpr c_9, c_23, eq_true c_35]) _ _ (hP.sub (ws' := [(a, .inr (1, [.ref r, .int (nI n)])), (r, .inl (cB, 16384, .inl f))]) [0, 1] rfl) hS ls (lv_sub hl [3, 1, 0] rfl)
        · skip
          refine lv_iconst (v := 1) hx hb d_SC_behindBlanks_26 (by decide) ?_
          refine lv_istore_n (lv' := [(2, .int 1), (4, .int (tt_ch f n j)), (0, .ref a), (3, .int (nI j))]) hx hb d_SC_behindBlanks_27 rfl hl (by decide) rfl (fun ls hl => ?_)
          refine lv_goto (tgt := 57) hx hb d_SC_behindBlanks_28 (by decide) ?_
          refine lv_iinc (v := nI (j + 1)) (lv' := [(3, .int (nI (j + 1))), (2, .int 1), (4, .int (tt_ch f n j)), (0, .ref a)]) hx hb d_SC_behindBlanks_57 hl (k := 3) rfl (nI_add j 1) (by decide) rfl (fun ls hl => ?_)
          refine lv_goto (tgt := 4) hx hb d_SC_behindBlanks_60 (by decide) ?_
          exact ih_4 true (j + 1) (by omega) (by omega) (by rw [← he]; (conv => rhs; rw [tt_bl]); simp [c_9, Nat.not_le.mpr c_9, eq_true c_23]) _ _ (hP.sub (ws' := [(a, .inr (1, [.ref r, .int (nI n)])), (r, .inl (cB, 16384, .inl f))]) [0, 1] rfl) hS ls (lv_sub hl [3, 1, 0] rfl)
  exact cut_4 _ false i (Nat.lt_succ_self _) (by omega) (by rfl) _ _ (hP.sub (ws' := [(a, .inr (1, [.ref r, .int (nI n)])), (r, .inl (cB, 16384, .inl f))]) [0, 1] rfl) hS ls (lv_sub hl [2, 1, 0] rfl)
abbrev rm_SC_stringOrNone : Room := { frames := 1, cells := 0, slots := 0, locals := 21 }
abbrev q_SC_stringOrNone (D : va_G) (cI cB cL : ClassId) (a r : Nat) (f : Nat → Int32) (n : Nat) (q : Nat) (tk : Int32) (i : Nat) (A : Nat → Prop) : Array Value → State → Outcome → State → Prop := va_Qi (fun r9 _ => r9 = (if tt_str f n (i + 1) = 0 then 7 else 1)) (fun (_ : Unit) t => va_P D vwCl [(a, .inr (1, [.ref r, .int (nI n)])), (r, .inl (cB, 16384, .inl f)), (q, .inr (4, [.int tk, .int (nI i), .int (nI (if tt_str f n (i + 1) = 0 then i else tt_str f n (i + 1)))]))] t.heap ∧ va_D A [(a, .inr (1, [.ref r, .int (nI n)])), (r, .inl (cB, 16384, .inl f)), (q, .inr (4, [.int tk, .int (nI i), .int (nI (if tt_str f n (i + 1) = 0 then i else tt_str f n (i + 1)))]))]) A
set_option maxHeartbeats 4000000 in
set_option maxRecDepth 100000 in
theorem c_SC_stringOrNone (l : Launch) (D : va_G) (cI cB cL : ClassId) (a r : Nat) (f : Nat → Int32) (n : Nat) (q : Nat) (tk : Int32) (i : Nat) (hn : n ≤ 16384) (hi : i < n) (sz : Nat) : Met l y_SC_stringOrNone w_SC_stringOrNone rm_SC_stringOrNone (va_Pc [.ref q, .ref a] (fun U => U.heap.size = sz ∧ va_P D vwCl [(a, .inr (1, [.ref r, .int (nI n)])), (r, .inl (cB, 16384, .inl f)), (q, .inr (4, [.int tk, .int (nI i), .int (nI i)]))] U.heap ∧ va_K D vwCl (tt_ty cI cB cL) U ∧ va_D (fun _ => True) [(a, .inr (1, [.ref r, .int (nI n)])), (r, .inl (cB, 16384, .inl f)), (q, .inr (4, [.int tk, .int (nI i), .int (nI i)]))])) (q_SC_stringOrNone D cI cB cL a r f n q tk i (va_A [(a, .inr (1, [.ref r, .int (nI n)])), (r, .inl (cB, 16384, .inl f)), (q, .inr (4, [.int tk, .int (nI i), .int (nI i)]))] sz)) 0 0 (va_A [(a, .inr (1, [.ref r, .int (nI n)])), (r, .inl (cB, 16384, .inl f)), (q, .inr (4, [.int tk, .int (nI i), .int (nI i)]))] sz) := by
  refine Met.ofW (cc := b_SC_stringOrNone) (maxL := 4) (ret := (some .int)) (by decide) rfl ?_
  intro p e s m args below meth c s₁ B hml hv
  obtain ⟨rfl, hsz, hP, hK, hD0⟩ := hv
  have hx := B.exec
  have hb := B.bytes
  have hr := B.returns
  have hts := atoms_spec (ws := w_SC_stringOrNone) B.pre
  have htT : ∀ w ∈ tt_T, w.before _ s = true := fun w h => hts w (List.mem_cons_of_mem _ h)
  have hown : s.vm.findClass R_SC = some m.cls := findClass_of_methodNamed B.named
  have hlocks := B.notSynchronized
  subst hsz
  have hD := hD0.self (sz := s.heap.size)
  generalize hAe : va_A [(a, .inr (1, [.ref r, .int (nI n)])), (r, .inl (cB, 16384, .inl f)), (q, .inr (4, [.int tk, .int (nI i), .int (nI i)]))] s.heap.size = A at hD ⊢
  have hA : ∀ q : Nat, s.heap.size ≤ q → A q := fun q h => by rw [← hAe]; exact Or.inr h
  have hS : va_S A s.heap s.heap [] := va_S.rf
  have hl := lv_entry ([.ref q, .ref a]) (n := 4) (Nat.le_of_ble_eq_true rfl)
  rw [lg_entry_eq]
  generalize (lg_sl ([.ref q, .ref a]) ++ List.replicate (4 - (lg_sl ([.ref q, .ref a])).length) Slot.unset).toArray = ls at hl ⊢
  have hl : lv_has ls 4 [(0, .ref q), (1, .ref a)] := hl
  have hP : va_P D vwCl [(a, .inr (1, [.ref r, .int (nI n)])), (r, .inl (cB, 16384, .inl f)), (q, .inr (4, [.int tk, .int (nI i), .int (nI i)]))] s.heap := hP
  refine lv_aload_n hx hb d_SC_stringOrNone_0 rfl (lv_at hl 0 rfl) ?_
  refine va_get (D := D) (ci := 4) (v := .int (nI i)) (C := R_SC) (T := F_SC) (N := 3) hx hb htT i_SC hown hK hP 2 rfl rfl 1 (by decide) (htT _ k_115) (fun _ h9 => h9) rfl d_SC_stringOrNone_1 ?_
  refine lv_iconst (v := 1) hx hb d_SC_stringOrNone_4 (by decide) ?_
  refine lv_iadd hx hb d_SC_stringOrNone_5 ?_
  refine tt_ti (show (nI i) + 1 = nI (i + 1) from nI_add i 1) ?_
  refine lv_istore_n (lv' := [(2, .int (nI (i + 1))), (0, .ref q), (1, .ref a)]) hx hb d_SC_stringOrNone_6 rfl hl (by decide) rfl (fun ls hl => ?_)
  have cut_7 : ∀ (k9 : Nat) (j : Nat) (_ : n + 2 - j < k9) (hj : j ≤ n + 1) (he : tt_str f n j = tt_str f n (i + 1)) (H : Heap) (locs : List Loc), va_P D vwCl [(a, .inr (1, [.ref r, .int (nI n)])), (r, .inl (cB, 16384, .inl f)), (q, .inr (4, [.int tk, .int (nI i), .int (nI i)]))] H → va_D A [(a, .inr (1, [.ref r, .int (nI n)])), (r, .inl (cB, 16384, .inl f)), (q, .inr (4, [.int tk, .int (nI i), .int (nI i)]))] → va_S A s.heap H locs → ∀ ls : Array Slot, lv_has ls 4 [(0, .ref q), (1, .ref a), (2, .int (nI j))] → W p l e (headSpec w_SC_stringOrNone rm_SC_stringOrNone).room s m ([.ref q, .ref a] : List Value).toArray below meth c H locs 0 0 (MQ below (q_SC_stringOrNone D cI cB cL a r f n q tk i A) ([.ref q, .ref a] : List Value).toArray s 0 0 A) (F0 m 7 ls []) := by
    intro k9
    induction k9 with
    | zero => intro j h9; exact absurd h9 (Nat.not_lt_zero _)
    | succ k9 ih_7 =>
      intro j h9 hj he H locs hP hD hS ls hl
      refine lv_iload_n hx hb d_SC_stringOrNone_7 rfl (lv_at hl 2 rfl) ?_
      refine lv_aload_n hx hb d_SC_stringOrNone_8 rfl (lv_at hl 1 rfl) ?_
      refine va_get (D := D) (ci := 1) (v := .int (nI n)) (C := R_BY) (T := F_BY) (N := 2) hx hb htT i_BY hown hK hP 0 rfl rfl 1 (by decide) (htT _ k_41) (fun _ h9 => h9) rfl d_SC_stringOrNone_9 ?_
      refine lv_icmp_ge (tgt := 81) hx hb d_SC_stringOrNone_12 (by decide) (fun c_12 => ?_) (fun c_12 => ?_)
      · have c_12 : n ≤ j := (nI_leI (a := n) (b := j) (by omega) (by omega)).mp c_12
        refine lv_bipush (v := 7) hx hb d_SC_stringOrNone_81 (by decide) ?_
        have o_r : (7 : Int32) = (if tt_str f n (i + 1) = 0 then 7 else 1) := by rw [← he, tt_str]; simp [c_12, Nat.not_lt.mpr c_12] <;> (intros; omega)
        have o_u : (if tt_str f n (i + 1) = 0 then i else tt_str f n (i + 1) : Nat) = i := by rw [← he, tt_str]; simp [c_12, Nat.not_lt.mpr c_12] <;> (intros; omega)
        have hP9 : va_P D vwCl [(a, .inr (1, [.ref r, .int (nI n)])), (r, .inl (cB, 16384, .inl f)), (q, .inr (4, [.int tk, .int (nI i), .int (nI i)]))] H := hP.sub [0, 1, 2] rfl
        have hD9 : va_D A [(a, .inr (1, [.ref r, .int (nI n)])), (r, .inl (cB, 16384, .inl f)), (q, .inr (4, [.int tk, .int (nI i), .int (nI i)]))] := hD.sub [0, 1, 2] (by decide) rfl
        have hP9 : va_P D vwCl [(a, .inr (1, [.ref r, .int (nI n)])), (r, .inl (cB, 16384, .inl f)), (q, .inr (4, [.int tk, .int (nI i), .int (nI (if tt_str f n (i + 1) = 0 then i else tt_str f n (i + 1)))]))] H := by rw [o_u]; exact hP9
        have hD9 : va_D A [(a, .inr (1, [.ref r, .int (nI n)])), (r, .inl (cB, 16384, .inl f)), (q, .inr (4, [.int tk, .int (nI i), .int (nI (if tt_str f n (i + 1) = 0 then i else tt_str f n (i + 1)))]))] := by rw [o_u]; exact hD9
        exact W.iret (v := 7) hx hb hr (fun t ht hW => ⟨⟨_, (), rfl, o_r, by rw [ht]; exact hP9, hD9⟩, hS.F ht⟩) hS.2.2 d_SC_stringOrNone_83
      · have c_12 : ¬ n ≤ j := fun z9 => c_12 ((nI_leI (a := n) (b := j) (by omega) (by omega)).mpr z9)
        have c_12 := Nat.not_le.mp c_12
        refine lv_aload_n hx hb d_SC_stringOrNone_15 rfl (lv_at hl 1 rfl) ?_
        refine lv_iload_n hx hb d_SC_stringOrNone_16 rfl (lv_at hl 2 rfl) ?_
        refine tt_roI (va_runV (As := [.int (nI j)]) (rest := []) ⟨hx, hb, hml, hown, hts⟩ (c_BY_at l D cI cB cL a r f n j (by omega) (by omega)) (cwV 1 hts (tt_gV k_207 k_174 k_175 k_2 k_176) rfl rfl rfl hv_BY_at ⟨Nat.le_of_ble_eq_true rfl, Nat.le_of_ble_eq_true rfl⟩) (tt_ropreV (w := [(a, .inr (1, [.ref r, .int (nI n)])), (r, .inl (cB, 16384, .inl f))]) hK hP [0, 1] rfl (va_recv hK hP (ci := 1) (q0 := 0) rfl rfl)) rfl rfl hl.1 rfl (lv_room (Nat.le_of_ble_eq_true rfl)) d_SC_stringOrNone_17 ⟨Nat.zero_le _, Nat.zero_le _⟩) hS hP (fun H locs hP hS => ?_)
        refine lv_istore_n (lv' := [(3, .int (tt_ch f n j)), (0, .ref q), (1, .ref a), (2, .int (nI j))]) hx hb d_SC_stringOrNone_20 rfl hl (by decide) rfl (fun ls hl => ?_)
        refine lv_iload_n hx hb d_SC_stringOrNone_21 rfl (lv_at hl 0 rfl) ?_
        refine lv_bipush (v := 34) hx hb d_SC_stringOrNone_22 (by decide) ?_
        refine lv_icmp_ne (tgt := 36) hx hb d_SC_stringOrNone_24 (by decide) (fun c_24 => ?_) (fun c_24 => ?_)
        · skip
          refine lv_iload_n hx hb d_SC_stringOrNone_36 rfl (lv_at hl 0 rfl) ?_
          refine tt_roI (va_runS (As := [.int (tt_ch f n j)]) (rest := []) ⟨hx, hb, hml, hown, hts⟩ (c_CH_standsInString l D cI cB cL (tt_ch f n j)) (va_cwS 1 hts (tt_gS2 k_237 k_238 k_14 k_239) rfl rfl rfl hv_CH_standsInString.2 ⟨Nat.le_of_ble_eq_true rfl, Nat.le_of_ble_eq_true rfl⟩) (tt_ropreS (w := []) hK hP [] rfl) rfl rfl hl.1 rfl (lv_room (Nat.le_of_ble_eq_true rfl)) d_SC_stringOrNone_37 ⟨Nat.zero_le _, Nat.zero_le _⟩) hS hP (fun H locs hP hS => ?_)
          refine lv_if_eq (tgt := 49) hx hb d_SC_stringOrNone_40 (by decide) (fun c_40 => ?_) (fun c_40 => ?_)
          · have c_40 := tt_b0.mp c_40
            refine lv_iload_n hx hb d_SC_stringOrNone_49 rfl (lv_at hl 0 rfl) ?_
            refine lv_bipush (v := 92) hx hb d_SC_stringOrNone_50 (by decide) ?_
            refine lv_icmp_ne (tgt := 75) hx hb d_SC_stringOrNone_52 (by decide) (fun c_52 => ?_) (fun c_52 => ?_)
            · skip
              refine lv_bipush (v := 7) hx hb d_SC_stringOrNone_75 (by decide) ?_
              have o_r : (7 : Int32) = (if tt_str f n (i + 1) = 0 then 7 else 1) := by rw [← he, tt_str]; simp [c_12, Nat.not_le.mpr c_12, c_24, c_40, c_52] <;> (intros; omega)
              have o_u : (if tt_str f n (i + 1) = 0 then i else tt_str f n (i + 1) : Nat) = i := by rw [← he, tt_str]; simp [c_12, Nat.not_le.mpr c_12, c_24, c_40, c_52] <;> (intros; omega)
              have hP9 : va_P D vwCl [(a, .inr (1, [.ref r, .int (nI n)])), (r, .inl (cB, 16384, .inl f)), (q, .inr (4, [.int tk, .int (nI i), .int (nI i)]))] H := hP.sub [0, 1, 2] rfl
              have hD9 : va_D A [(a, .inr (1, [.ref r, .int (nI n)])), (r, .inl (cB, 16384, .inl f)), (q, .inr (4, [.int tk, .int (nI i), .int (nI i)]))] := hD.sub [0, 1, 2] (by decide) rfl
              have hP9 : va_P D vwCl [(a, .inr (1, [.ref r, .int (nI n)])), (r, .inl (cB, 16384, .inl f)), (q, .inr (4, [.int tk, .int (nI i), .int (nI (if tt_str f n (i + 1) = 0 then i else tt_str f n (i + 1)))]))] H := by rw [o_u]; exact hP9
              have hD9 : va_D A [(a, .inr (1, [.ref r, .int (nI n)])), (r, .inl (cB, 16384, .inl f)), (q, .inr (4, [.int tk, .int (nI i), .int (nI (if tt_str f n (i + 1) = 0 then i else tt_str f n (i + 1)))]))] := by rw [o_u]; exact hD9
              exact W.iret (v := 7) hx hb hr (fun t ht hW => ⟨⟨_, (), rfl, o_r, by rw [ht]; exact hP9, hD9⟩, hS.F ht⟩) hS.2.2 d_SC_stringOrNone_77
            · skip
              refine lv_aload_n hx hb d_SC_stringOrNone_55 rfl (lv_at hl 2 rfl) ?_
              refine lv_iload_n hx hb d_SC_stringOrNone_56 rfl (lv_at hl 3 rfl) ?_
              refine lv_iconst (v := 1) hx hb d_SC_stringOrNone_57 (by decide) ?_
              refine lv_iadd hx hb d_SC_stringOrNone_58 ?_
              refine tt_ti (show (nI j) + 1 = nI (j + 1) from nI_add j 1) ?_
              refine tt_roI (va_runV (As := [.int (nI (j + 1))]) (rest := []) ⟨hx, hb, hml, hown, hts⟩ (c_BY_at l D cI cB cL a r f n (j + 1) (by omega) (by omega)) (cwV 1 hts (tt_gV k_207 k_174 k_175 k_2 k_176) rfl rfl rfl hv_BY_at ⟨Nat.le_of_ble_eq_true rfl, Nat.le_of_ble_eq_true rfl⟩) (tt_ropreV (w := [(a, .inr (1, [.ref r, .int (nI n)])), (r, .inl (cB, 16384, .inl f))]) hK hP [0, 1] rfl (va_recv hK hP (ci := 1) (q0 := 0) rfl rfl)) rfl rfl hl.1 rfl (lv_room (Nat.le_of_ble_eq_true rfl)) d_SC_stringOrNone_59 ⟨Nat.zero_le _, Nat.zero_le _⟩) hS hP (fun H locs hP hS => ?_)
              refine tt_roI (va_runS (As := [.int (tt_ch f n (j + 1))]) (rest := []) ⟨hx, hb, hml, hown, hts⟩ (c_CH_escaped l D cI cB cL (tt_ch f n (j + 1))) (va_cwS 1 hts (tt_gS2 k_240 k_241 k_14 k_242) rfl rfl rfl hv_CH_escaped.2 ⟨Nat.le_of_ble_eq_true rfl, Nat.le_of_ble_eq_true rfl⟩) (tt_ropreS (w := []) hK hP [] rfl) rfl rfl hl.1 rfl (lv_room (Nat.le_of_ble_eq_true rfl)) d_SC_stringOrNone_62 ⟨Nat.zero_le _, Nat.zero_le _⟩) hS hP (fun H locs hP hS => ?_)
              refine lv_iconst (v := (-1)) hx hb d_SC_stringOrNone_65 (by decide) ?_
              refine lv_icmp_eq (tgt := 75) hx hb d_SC_stringOrNone_66 (by decide) (fun c_66 => ?_) (fun c_66 => ?_)
              · skip
                refine lv_bipush (v := 7) hx hb d_SC_stringOrNone_75 (by decide) ?_
                have o_r : (7 : Int32) = (if tt_str f n (i + 1) = 0 then 7 else 1) := by rw [← he, tt_str]; simp [c_12, Nat.not_le.mpr c_12, c_24, c_40, eq_true c_52, eq_true c_66] <;> (intros; omega)
                have o_u : (if tt_str f n (i + 1) = 0 then i else tt_str f n (i + 1) : Nat) = i := by rw [← he, tt_str]; simp [c_12, Nat.not_le.mpr c_12, c_24, c_40, eq_true c_52, eq_true c_66] <;> (intros; omega)
                have hP9 : va_P D vwCl [(a, .inr (1, [.ref r, .int (nI n)])), (r, .inl (cB, 16384, .inl f)), (q, .inr (4, [.int tk, .int (nI i), .int (nI i)]))] H := hP.sub [0, 1, 2] rfl
                have hD9 : va_D A [(a, .inr (1, [.ref r, .int (nI n)])), (r, .inl (cB, 16384, .inl f)), (q, .inr (4, [.int tk, .int (nI i), .int (nI i)]))] := hD.sub [0, 1, 2] (by decide) rfl
                have hP9 : va_P D vwCl [(a, .inr (1, [.ref r, .int (nI n)])), (r, .inl (cB, 16384, .inl f)), (q, .inr (4, [.int tk, .int (nI i), .int (nI (if tt_str f n (i + 1) = 0 then i else tt_str f n (i + 1)))]))] H := by rw [o_u]; exact hP9
                have hD9 : va_D A [(a, .inr (1, [.ref r, .int (nI n)])), (r, .inl (cB, 16384, .inl f)), (q, .inr (4, [.int tk, .int (nI i), .int (nI (if tt_str f n (i + 1) = 0 then i else tt_str f n (i + 1)))]))] := by rw [o_u]; exact hD9
                exact W.iret (v := 7) hx hb hr (fun t ht hW => ⟨⟨_, (), rfl, o_r, by rw [ht]; exact hP9, hD9⟩, hS.F ht⟩) hS.2.2 d_SC_stringOrNone_77
              · skip
                refine lv_iinc (v := nI (j + 2)) (lv' := [(2, .int (nI (j + 2))), (3, .int (tt_ch f n j)), (0, .ref q), (1, .ref a)]) hx hb d_SC_stringOrNone_69 hl (k := 3) rfl (nI_add j 2) (by decide) rfl (fun ls hl => ?_)
                refine lv_goto (tgt := 78) hx hb d_SC_stringOrNone_72 (by decide) ?_
                refine lv_goto (tgt := 7) hx hb d_SC_stringOrNone_78 (by decide) ?_
                exact ih_7 (j + 2) (by omega) (by omega) (by rw [← he]; (conv => rhs; rw [tt_str]); simp [c_12, Nat.not_le.mpr c_12, c_24, c_40, eq_true c_52, c_66]) _ _ (hP.sub (ws' := [(a, .inr (1, [.ref r, .int (nI n)])), (r, .inl (cB, 16384, .inl f)), (q, .inr (4, [.int tk, .int (nI i), .int (nI i)]))]) [0, 1, 2] rfl) (hD.sub (ws' := [(a, .inr (1, [.ref r, .int (nI n)])), (r, .inl (cB, 16384, .inl f)), (q, .inr (4, [.int tk, .int (nI i), .int (nI i)]))]) [0, 1, 2] (by decide) rfl) hS ls (lv_sub hl [2, 3, 0] rfl)
          · have c_40 := tt_bn0.mp c_40
            refine lv_iinc (v := nI (j + 1)) (lv' := [(2, .int (nI (j + 1))), (3, .int (tt_ch f n j)), (0, .ref q), (1, .ref a)]) hx hb d_SC_stringOrNone_43 hl (k := 3) rfl (nI_add j 1) (by decide) rfl (fun ls hl => ?_)
            refine lv_goto (tgt := 78) hx hb d_SC_stringOrNone_46 (by decide) ?_
            refine lv_goto (tgt := 7) hx hb d_SC_stringOrNone_78 (by decide) ?_
            exact ih_7 (j + 1) (by omega) (by omega) (by rw [← he]; (conv => rhs; rw [tt_str]); simp [c_12, Nat.not_le.mpr c_12, c_24, c_40]) _ _ (hP.sub (ws' := [(a, .inr (1, [.ref r, .int (nI n)])), (r, .inl (cB, 16384, .inl f)), (q, .inr (4, [.int tk, .int (nI i), .int (nI i)]))]) [0, 1, 2] rfl) (hD.sub (ws' := [(a, .inr (1, [.ref r, .int (nI n)])), (r, .inl (cB, 16384, .inl f)), (q, .inr (4, [.int tk, .int (nI i), .int (nI i)]))]) [0, 1, 2] (by decide) rfl) hS ls (lv_sub hl [2, 3, 0] rfl)
        · skip
          refine lv_aload_n hx hb d_SC_stringOrNone_27 rfl (lv_at hl 1 rfl) ?_
          refine lv_iload_n hx hb d_SC_stringOrNone_28 rfl (lv_at hl 3 rfl) ?_
          refine lv_iconst (v := 1) hx hb d_SC_stringOrNone_29 (by decide) ?_
          refine lv_iadd hx hb d_SC_stringOrNone_30 ?_
          refine tt_ti (show (nI j) + 1 = nI (j + 1) from nI_add j 1) ?_
          refine va_put (D := D) (ci := 4) (v := .int (nI (j + 1))) (ty := .int) (C := R_SC) (T := F_SC) (N := 3) hx hb htT i_SC t_SC t_SC_ok n_SC hown hK hP hD hS 2 rfl rfl 2 (by decide) (htT _ k_117) (fun _ h9 => h9) rfl (by decide +kernel) rfl rfl (Nat.le_of_ble_eq_true rfl) d_SC_stringOrNone_31 (fun H locs hP hD hS => ?_)
          have hP : va_P D vwCl [(a, .inr (1, [.ref r, .int (nI n)])), (r, .inl (cB, 16384, .inl f)), (q, .inr (4, [.int tk, .int (nI i), .int (nI (j + 1))]))] H := hP
          have hD : va_D A [(a, .inr (1, [.ref r, .int (nI n)])), (r, .inl (cB, 16384, .inl f)), (q, .inr (4, [.int tk, .int (nI i), .int (nI (j + 1))]))] := hD
          refine lv_iconst (v := 1) hx hb d_SC_stringOrNone_34 (by decide) ?_
          have o_r : (1 : Int32) = (if tt_str f n (i + 1) = 0 then 7 else 1) := by rw [← he, tt_str]; simp [c_12, Nat.not_le.mpr c_12, eq_true c_24] <;> (intros; omega)
          have o_u : (if tt_str f n (i + 1) = 0 then i else tt_str f n (i + 1) : Nat) = (j + 1) := by rw [← he, tt_str]; simp [c_12, Nat.not_le.mpr c_12, eq_true c_24] <;> (intros; omega)
          have hP9 : va_P D vwCl [(a, .inr (1, [.ref r, .int (nI n)])), (r, .inl (cB, 16384, .inl f)), (q, .inr (4, [.int tk, .int (nI i), .int (nI (j + 1))]))] H := hP.sub [0, 1, 2] rfl
          have hD9 : va_D A [(a, .inr (1, [.ref r, .int (nI n)])), (r, .inl (cB, 16384, .inl f)), (q, .inr (4, [.int tk, .int (nI i), .int (nI (j + 1))]))] := hD.sub [0, 1, 2] (by decide) rfl
          have hP9 : va_P D vwCl [(a, .inr (1, [.ref r, .int (nI n)])), (r, .inl (cB, 16384, .inl f)), (q, .inr (4, [.int tk, .int (nI i), .int (nI (if tt_str f n (i + 1) = 0 then i else tt_str f n (i + 1)))]))] H := by rw [o_u]; exact hP9
          have hD9 : va_D A [(a, .inr (1, [.ref r, .int (nI n)])), (r, .inl (cB, 16384, .inl f)), (q, .inr (4, [.int tk, .int (nI i), .int (nI (if tt_str f n (i + 1) = 0 then i else tt_str f n (i + 1)))]))] := by rw [o_u]; exact hD9
          exact W.iret (v := 1) hx hb hr (fun t ht hW => ⟨⟨_, (), rfl, o_r, by rw [ht]; exact hP9, hD9⟩, hS.F ht⟩) hS.2.2 d_SC_stringOrNone_35
  exact cut_7 _ (i + 1) (Nat.lt_succ_self _) (by omega) (by rfl) _ _ (hP.sub (ws' := [(a, .inr (1, [.ref r, .int (nI n)])), (r, .inl (cB, 16384, .inl f)), (q, .inr (4, [.int tk, .int (nI i), .int (nI i)]))]) [0, 1, 2] rfl) (hD.sub (ws' := [(a, .inr (1, [.ref r, .int (nI n)])), (r, .inl (cB, 16384, .inl f)), (q, .inr (4, [.int tk, .int (nI i), .int (nI i)]))]) [0, 1, 2] (by decide) rfl) hS ls (lv_sub hl [1, 2, 0] rfl)
abbrev rm_SC_tokenAt : Room := { frames := 3, cells := 0, slots := 0, locals := 64 }
abbrev q_SC_tokenAt (D : va_G) (cI cB cL : ClassId) (a r : Nat) (f : Nat → Int32) (n : Nat) (q : Nat) (tk : Int32) (i : Nat) (A : Nat → Prop) : Array Value → State → Outcome → State → Prop := va_Qi (fun r9 _ => r9 = (tt_tok f n i)) (fun (_ : Unit) t => va_P D vwCl [(a, .inr (1, [.ref r, .int (nI n)])), (r, .inl (cB, 16384, .inl f)), (q, .inr (4, [.int tk, .int (nI i), .int (nI (tt_to f n i))]))] t.heap ∧ va_D A [(a, .inr (1, [.ref r, .int (nI n)])), (r, .inl (cB, 16384, .inl f)), (q, .inr (4, [.int tk, .int (nI i), .int (nI (tt_to f n i))]))]) A
set_option maxHeartbeats 4000000 in
set_option maxRecDepth 100000 in
theorem c_SC_tokenAt (l : Launch) (D : va_G) (cI cB cL : ClassId) (a r : Nat) (f : Nat → Int32) (n : Nat) (q : Nat) (tk : Int32) (i : Nat) (hn : n ≤ 16384) (hi : i ≤ n) (sz : Nat) : Met l y_SC_tokenAt w_SC_tokenAt rm_SC_tokenAt (va_Pc [.ref q, .ref a, .int (tt_ch f n i)] (fun U => U.heap.size = sz ∧ va_P D vwCl [(a, .inr (1, [.ref r, .int (nI n)])), (r, .inl (cB, 16384, .inl f)), (q, .inr (4, [.int tk, .int (nI i), .int (nI i)]))] U.heap ∧ va_K D vwCl (tt_ty cI cB cL) U ∧ va_D (fun _ => True) [(a, .inr (1, [.ref r, .int (nI n)])), (r, .inl (cB, 16384, .inl f)), (q, .inr (4, [.int tk, .int (nI i), .int (nI i)]))])) (q_SC_tokenAt D cI cB cL a r f n q tk i (va_A [(a, .inr (1, [.ref r, .int (nI n)])), (r, .inl (cB, 16384, .inl f)), (q, .inr (4, [.int tk, .int (nI i), .int (nI i)]))] sz)) 0 0 (va_A [(a, .inr (1, [.ref r, .int (nI n)])), (r, .inl (cB, 16384, .inl f)), (q, .inr (4, [.int tk, .int (nI i), .int (nI i)]))] sz) := by
  refine Met.ofW (cc := b_SC_tokenAt) (maxL := 4) (ret := (some .int)) (by decide) rfl ?_
  intro p e s m args below meth c s₁ B hml hv
  obtain ⟨rfl, hsz, hP, hK, hD0⟩ := hv
  have hx := B.exec
  have hb := B.bytes
  have hr := B.returns
  have hts := atoms_spec (ws := w_SC_tokenAt) B.pre
  have htT : ∀ w ∈ tt_T, w.before _ s = true := fun w h => hts w (List.mem_cons_of_mem _ h)
  have hown : s.vm.findClass R_SC = some m.cls := findClass_of_methodNamed B.named
  have hlocks := B.notSynchronized
  subst hsz
  have hD := hD0.self (sz := s.heap.size)
  generalize hAe : va_A [(a, .inr (1, [.ref r, .int (nI n)])), (r, .inl (cB, 16384, .inl f)), (q, .inr (4, [.int tk, .int (nI i), .int (nI i)]))] s.heap.size = A at hD ⊢
  have hA : ∀ q : Nat, s.heap.size ≤ q → A q := fun q h => by rw [← hAe]; exact Or.inr h
  have hS : va_S A s.heap s.heap [] := va_S.rf
  have hl := lv_entry ([.ref q, .ref a, .int (tt_ch f n i)]) (n := 4) (Nat.le_of_ble_eq_true rfl)
  rw [lg_entry_eq]
  generalize (lg_sl ([.ref q, .ref a, .int (tt_ch f n i)]) ++ List.replicate (4 - (lg_sl ([.ref q, .ref a, .int (tt_ch f n i)])).length) Slot.unset).toArray = ls at hl ⊢
  have hl : lv_has ls 4 [(0, .ref q), (1, .ref a), (2, .int (tt_ch f n i))] := hl
  have hP : va_P D vwCl [(a, .inr (1, [.ref r, .int (nI n)])), (r, .inl (cB, 16384, .inl f)), (q, .inr (4, [.int tk, .int (nI i), .int (nI i)]))] s.heap := hP
  refine lv_iload_n hx hb d_SC_tokenAt_0 rfl (lv_at hl 2 rfl) ?_
  refine lv_iconst (v := (-1)) hx hb d_SC_tokenAt_1 (by decide) ?_
  refine lv_icmp_ne (tgt := 8) hx hb d_SC_tokenAt_2 (by decide) (fun c_2 => ?_) (fun c_2 => ?_)
  · skip
    have hin := tt_ch_in c_2
    refine lv_iload_n hx hb d_SC_tokenAt_8 rfl (lv_at hl 2 rfl) ?_
    refine tt_roI (va_runS (As := [.int (tt_ch f n i)]) (rest := []) ⟨hx, hb, hml, hown, hts⟩ (c_CH_beginsWord l D cI cB cL (tt_ch f n i)) (va_cwS 1 hts (tt_gS2 k_215 k_216 k_14 k_217) rfl rfl rfl hv_CH_beginsWord.2 ⟨Nat.le_of_ble_eq_true rfl, Nat.le_of_ble_eq_true rfl⟩) (tt_ropreS (w := []) hK hP [] rfl) rfl rfl hl.1 rfl (lv_room (Nat.le_of_ble_eq_true rfl)) d_SC_tokenAt_9 ⟨Nat.zero_le _, Nat.zero_le _⟩) hS hP (fun H locs hP hS => ?_)
    refine lv_if_eq (tgt := 30) hx hb d_SC_tokenAt_12 (by decide) (fun c_12 => ?_) (fun c_12 => ?_)
    · have c_12 := tt_b0.mp c_12
      refine lv_iload_n hx hb d_SC_tokenAt_30 rfl (lv_at hl 2 rfl) ?_
      refine lv_bipush (v := 48) hx hb d_SC_tokenAt_31 (by decide) ?_
      refine lv_icmp_ne (tgt := 87) hx hb d_SC_tokenAt_33 (by decide) (fun c_33 => ?_) (fun c_33 => ?_)
      · skip
        refine lv_iload_n hx hb d_SC_tokenAt_87 rfl (lv_at hl 2 rfl) ?_
        refine lv_bipush (v := 45) hx hb d_SC_tokenAt_88 (by decide) ?_
        refine lv_icmp_eq (tgt := 100) hx hb d_SC_tokenAt_90 (by decide) (fun c_90 => ?_) (fun c_90 => ?_)
        · skip
          refine lv_aload_n hx hb d_SC_tokenAt_100 rfl (lv_at hl 0 rfl) ?_
          refine lv_aload_n hx hb d_SC_tokenAt_101 rfl (lv_at hl 1 rfl) ?_
          refine lv_iconst (v := 0) hx hb d_SC_tokenAt_102 (by decide) ?_
          refine lv_aload_n hx hb d_SC_tokenAt_103 rfl (lv_at hl 0 rfl) ?_
          refine va_get (D := D) (ci := 4) (v := .int (nI i)) (C := R_SC) (T := F_SC) (N := 3) hx hb htT i_SC hown hK hP 2 rfl rfl 1 (by decide) (htT _ k_115) (fun _ h9 => h9) rfl d_SC_tokenAt_104 ?_
          refine lv_iconst (v := 1) hx hb d_SC_tokenAt_107 (by decide) ?_
          refine lv_iadd hx hb d_SC_tokenAt_108 ?_
          refine tt_ti (show (nI i) + 1 = nI (i + 1) from nI_add i 1) ?_
          refine tt_roI (va_runV (As := [.int 0, .int (nI (i + 1))]) (rest := [.ref q]) ⟨hx, hb, hml, hown, hts⟩ (c_BY_behindAll0 l D cI cB cL a r f n (i + 1) (by omega) (by omega)) (cwV 2 hts (tt_gV k_218 k_219 k_220 k_2 k_221) rfl rfl rfl hv_BY_behindAll ⟨Nat.le_of_ble_eq_true rfl, Nat.le_of_ble_eq_true rfl⟩) (tt_ropreV (w := [(a, .inr (1, [.ref r, .int (nI n)])), (r, .inl (cB, 16384, .inl f))]) hK hP [0, 1] rfl (va_recv hK hP (ci := 1) (q0 := 0) rfl rfl)) rfl rfl hl.1 rfl (lv_room (Nat.le_of_ble_eq_true rfl)) d_SC_tokenAt_109 ⟨Nat.zero_le _, Nat.zero_le _⟩) hS hP (fun H locs hP hS => ?_)
          have b_109_0 := tt_swb (fun j => tt_dig (tt_ch f n j)) n (i + 1)
          refine va_put (D := D) (ci := 4) (v := .int (nI (tt_sw (fun j => tt_dig (tt_ch f n j)) n (i + 1)))) (ty := .int) (C := R_SC) (T := F_SC) (N := 3) hx hb htT i_SC t_SC t_SC_ok n_SC hown hK hP hD hS 2 rfl rfl 2 (by decide) (htT _ k_117) (fun _ h9 => h9) rfl (by decide +kernel) rfl rfl (Nat.le_of_ble_eq_true rfl) d_SC_tokenAt_112 (fun H locs hP hD hS => ?_)
          have hP : va_P D vwCl [(a, .inr (1, [.ref r, .int (nI n)])), (r, .inl (cB, 16384, .inl f)), (q, .inr (4, [.int tk, .int (nI i), .int (nI (tt_sw (fun j => tt_dig (tt_ch f n j)) n (i + 1)))]))] H := hP
          have hD : va_D A [(a, .inr (1, [.ref r, .int (nI n)])), (r, .inl (cB, 16384, .inl f)), (q, .inr (4, [.int tk, .int (nI i), .int (nI (tt_sw (fun j => tt_dig (tt_ch f n j)) n (i + 1)))]))] := hD
          refine lv_iload_n hx hb d_SC_tokenAt_115 rfl (lv_at hl 2 rfl) ?_
          refine lv_bipush (v := 45) hx hb d_SC_tokenAt_116 (by decide) ?_
          refine lv_icmp_ne (tgt := 139) hx hb d_SC_tokenAt_118 (by decide) (fun c_118 => ?_) (fun c_118 => ?_)
          · skip
            refine lv_iconst (v := 0) hx hb d_SC_tokenAt_139 (by decide) ?_
            have o_r : (0 : Int32) = (tt_tok f n i) := by first | contradiction | (simp [tt_tok, tt_b, c_2, c_12, c_33, eq_true c_90, c_118] <;> (intros; omega))
            have o_u : (tt_to f n i : Nat) = (tt_sw (fun j => tt_dig (tt_ch f n j)) n (i + 1)) := by first | contradiction | (simp [tt_to, tt_b, c_2, c_12, c_33, eq_true c_90, c_118] <;> (intros; omega))
            have hP9 : va_P D vwCl [(a, .inr (1, [.ref r, .int (nI n)])), (r, .inl (cB, 16384, .inl f)), (q, .inr (4, [.int tk, .int (nI i), .int (nI (tt_sw (fun j => tt_dig (tt_ch f n j)) n (i + 1)))]))] H := hP.sub [0, 1, 2] rfl
            have hD9 : va_D A [(a, .inr (1, [.ref r, .int (nI n)])), (r, .inl (cB, 16384, .inl f)), (q, .inr (4, [.int tk, .int (nI i), .int (nI (tt_sw (fun j => tt_dig (tt_ch f n j)) n (i + 1)))]))] := hD.sub [0, 1, 2] (by decide) rfl
            have hP9 : va_P D vwCl [(a, .inr (1, [.ref r, .int (nI n)])), (r, .inl (cB, 16384, .inl f)), (q, .inr (4, [.int tk, .int (nI i), .int (nI (tt_to f n i))]))] H := by rw [o_u]; exact hP9
            have hD9 : va_D A [(a, .inr (1, [.ref r, .int (nI n)])), (r, .inl (cB, 16384, .inl f)), (q, .inr (4, [.int tk, .int (nI i), .int (nI (tt_to f n i))]))] := by rw [o_u]; exact hD9
            exact W.iret (v := 0) hx hb hr (fun t ht hW => ⟨⟨_, (), rfl, o_r, by rw [ht]; exact hP9, hD9⟩, hS.F ht⟩) hS.2.2 d_SC_tokenAt_140
          · skip
            refine lv_aload_n hx hb d_SC_tokenAt_121 rfl (lv_at hl 0 rfl) ?_
            refine va_get (D := D) (ci := 4) (v := .int (nI (tt_sw (fun j => tt_dig (tt_ch f n j)) n (i + 1)))) (C := R_SC) (T := F_SC) (N := 3) hx hb htT i_SC hown hK hP 2 rfl rfl 2 (by decide) (htT _ k_117) (fun _ h9 => h9) rfl d_SC_tokenAt_122 ?_
            refine lv_aload_n hx hb d_SC_tokenAt_125 rfl (lv_at hl 0 rfl) ?_
            refine va_get (D := D) (ci := 4) (v := .int (nI i)) (C := R_SC) (T := F_SC) (N := 3) hx hb htT i_SC hown hK hP 2 rfl rfl 1 (by decide) (htT _ k_115) (fun _ h9 => h9) rfl d_SC_tokenAt_126 ?_
            refine lv_iconst (v := 1) hx hb d_SC_tokenAt_129 (by decide) ?_
            refine lv_iadd hx hb d_SC_tokenAt_130 ?_
            refine tt_ti (show (nI i) + 1 = nI (i + 1) from nI_add i 1) ?_
            refine lv_icmp_ne (tgt := 139) hx hb d_SC_tokenAt_131 (by decide) (fun c_131 => ?_) (fun c_131 => ?_)
            · have c_131 : ¬ (tt_sw (fun j => tt_dig (tt_ch f n j)) n (i + 1)) = (i + 1) := fun z9 => c_131 ((nI_eq (a := (tt_sw (fun j => tt_dig (tt_ch f n j)) n (i + 1))) (b := (i + 1)) (by omega) (by omega)).mpr z9)
              refine lv_iconst (v := 0) hx hb d_SC_tokenAt_139 (by decide) ?_
              have o_r : (0 : Int32) = (tt_tok f n i) := by first | contradiction | (simp [tt_tok, tt_b, c_2, c_12, c_33, eq_true c_90, eq_true c_118, c_131] <;> (intros; omega))
              have o_u : (tt_to f n i : Nat) = (tt_sw (fun j => tt_dig (tt_ch f n j)) n (i + 1)) := by first | contradiction | (simp [tt_to, tt_b, c_2, c_12, c_33, eq_true c_90, eq_true c_118, c_131] <;> (intros; omega))
              have hP9 : va_P D vwCl [(a, .inr (1, [.ref r, .int (nI n)])), (r, .inl (cB, 16384, .inl f)), (q, .inr (4, [.int tk, .int (nI i), .int (nI (tt_sw (fun j => tt_dig (tt_ch f n j)) n (i + 1)))]))] H := hP.sub [0, 1, 2] rfl
              have hD9 : va_D A [(a, .inr (1, [.ref r, .int (nI n)])), (r, .inl (cB, 16384, .inl f)), (q, .inr (4, [.int tk, .int (nI i), .int (nI (tt_sw (fun j => tt_dig (tt_ch f n j)) n (i + 1)))]))] := hD.sub [0, 1, 2] (by decide) rfl
              have hP9 : va_P D vwCl [(a, .inr (1, [.ref r, .int (nI n)])), (r, .inl (cB, 16384, .inl f)), (q, .inr (4, [.int tk, .int (nI i), .int (nI (tt_to f n i))]))] H := by rw [o_u]; exact hP9
              have hD9 : va_D A [(a, .inr (1, [.ref r, .int (nI n)])), (r, .inl (cB, 16384, .inl f)), (q, .inr (4, [.int tk, .int (nI i), .int (nI (tt_to f n i))]))] := by rw [o_u]; exact hD9
              exact W.iret (v := 0) hx hb hr (fun t ht hW => ⟨⟨_, (), rfl, o_r, by rw [ht]; exact hP9, hD9⟩, hS.F ht⟩) hS.2.2 d_SC_tokenAt_140
            · have c_131 : (tt_sw (fun j => tt_dig (tt_ch f n j)) n (i + 1)) = (i + 1) := (nI_eq (a := (tt_sw (fun j => tt_dig (tt_ch f n j)) n (i + 1))) (b := (i + 1)) (by omega) (by omega)).mp c_131
              refine lv_bipush (v := 7) hx hb d_SC_tokenAt_134 (by decide) ?_
              refine lv_goto (tgt := 140) hx hb d_SC_tokenAt_136 (by decide) ?_
              have o_r : (7 : Int32) = (tt_tok f n i) := by first | contradiction | (simp [tt_tok, tt_b, c_2, c_12, c_33, eq_true c_90, eq_true c_118, eq_true c_131] <;> (intros; omega))
              have o_u : (tt_to f n i : Nat) = (tt_sw (fun j => tt_dig (tt_ch f n j)) n (i + 1)) := by first | contradiction | (simp [tt_to, tt_b, c_2, c_12, c_33, eq_true c_90, eq_true c_118, eq_true c_131] <;> (intros; omega))
              have hP9 : va_P D vwCl [(a, .inr (1, [.ref r, .int (nI n)])), (r, .inl (cB, 16384, .inl f)), (q, .inr (4, [.int tk, .int (nI i), .int (nI (tt_sw (fun j => tt_dig (tt_ch f n j)) n (i + 1)))]))] H := hP.sub [0, 1, 2] rfl
              have hD9 : va_D A [(a, .inr (1, [.ref r, .int (nI n)])), (r, .inl (cB, 16384, .inl f)), (q, .inr (4, [.int tk, .int (nI i), .int (nI (tt_sw (fun j => tt_dig (tt_ch f n j)) n (i + 1)))]))] := hD.sub [0, 1, 2] (by decide) rfl
              have hP9 : va_P D vwCl [(a, .inr (1, [.ref r, .int (nI n)])), (r, .inl (cB, 16384, .inl f)), (q, .inr (4, [.int tk, .int (nI i), .int (nI (tt_to f n i))]))] H := by rw [o_u]; exact hP9
              have hD9 : va_D A [(a, .inr (1, [.ref r, .int (nI n)])), (r, .inl (cB, 16384, .inl f)), (q, .inr (4, [.int tk, .int (nI i), .int (nI (tt_to f n i))]))] := by rw [o_u]; exact hD9
              exact W.iret (v := 7) hx hb hr (fun t ht hW => ⟨⟨_, (), rfl, o_r, by rw [ht]; exact hP9, hD9⟩, hS.F ht⟩) hS.2.2 d_SC_tokenAt_140
        · skip
          refine lv_iload_n hx hb d_SC_tokenAt_93 rfl (lv_at hl 2 rfl) ?_
          refine tt_roI (va_runS (As := [.int (tt_ch f n i)]) (rest := []) ⟨hx, hb, hml, hown, hts⟩ (c_CH_isDigit l D cI cB cL (tt_ch f n i)) (va_cwS 1 hts (tt_gS2 k_232 k_226 k_14 k_227) rfl rfl rfl hv_CH_isDigit.2 ⟨Nat.le_of_ble_eq_true rfl, Nat.le_of_ble_eq_true rfl⟩) (tt_ropreS (w := []) hK hP [] rfl) rfl rfl hl.1 rfl (lv_room (Nat.le_of_ble_eq_true rfl)) d_SC_tokenAt_94 ⟨Nat.zero_le _, Nat.zero_le _⟩) hS hP (fun H locs hP hS => ?_)
          refine lv_if_eq (tgt := 141) hx hb d_SC_tokenAt_97 (by decide) (fun c_97 => ?_) (fun c_97 => ?_)
          · have c_97 := tt_b0.mp c_97
            refine lv_iload_n hx hb d_SC_tokenAt_141 rfl (lv_at hl 2 rfl) ?_
            refine lv_bipush (v := 34) hx hb d_SC_tokenAt_142 (by decide) ?_
            refine lv_icmp_ne (tgt := 153) hx hb d_SC_tokenAt_144 (by decide) (fun c_144 => ?_) (fun c_144 => ?_)
            · skip
              refine lv_iload_n hx hb d_SC_tokenAt_153 rfl (lv_at hl 2 rfl) ?_
              refine lv_bipush (v := 37) hx hb d_SC_tokenAt_154 (by decide) ?_
              refine lv_icmp_ne (tgt := 209) hx hb d_SC_tokenAt_156 (by decide) (fun c_156 => ?_) (fun c_156 => ?_)
              · skip
                refine lv_aload_n hx hb d_SC_tokenAt_209 rfl (lv_at hl 0 rfl) ?_
                refine lv_aload_n hx hb d_SC_tokenAt_210 rfl (lv_at hl 0 rfl) ?_
                refine va_get (D := D) (ci := 4) (v := .int (nI i)) (C := R_SC) (T := F_SC) (N := 3) hx hb htT i_SC hown hK hP 2 rfl rfl 1 (by decide) (htT _ k_115) (fun _ h9 => h9) rfl d_SC_tokenAt_211 ?_
                refine lv_iconst (v := 1) hx hb d_SC_tokenAt_214 (by decide) ?_
                refine lv_iadd hx hb d_SC_tokenAt_215 ?_
                refine tt_ti (show (nI i) + 1 = nI (i + 1) from nI_add i 1) ?_
                refine va_put (D := D) (ci := 4) (v := .int (nI (i + 1))) (ty := .int) (C := R_SC) (T := F_SC) (N := 3) hx hb htT i_SC t_SC t_SC_ok n_SC hown hK hP hD hS 2 rfl rfl 2 (by decide) (htT _ k_117) (fun _ h9 => h9) rfl (by decide +kernel) rfl rfl (Nat.le_of_ble_eq_true rfl) d_SC_tokenAt_216 (fun H locs hP hD hS => ?_)
                have hP : va_P D vwCl [(a, .inr (1, [.ref r, .int (nI n)])), (r, .inl (cB, 16384, .inl f)), (q, .inr (4, [.int tk, .int (nI i), .int (nI (i + 1))]))] H := hP
                have hD : va_D A [(a, .inr (1, [.ref r, .int (nI n)])), (r, .inl (cB, 16384, .inl f)), (q, .inr (4, [.int tk, .int (nI i), .int (nI (i + 1))]))] := hD
                refine lv_iload_n hx hb d_SC_tokenAt_219 rfl (lv_at hl 2 rfl) ?_
                refine tt_roI (va_runS (As := [.int (tt_ch f n i)]) (rest := []) ⟨hx, hb, hml, hown, hts⟩ (c_CH_isSign l D cI cB cL (tt_ch f n i)) (va_cwS 1 hts (tt_gS2 k_246 k_247 k_14 k_248) rfl rfl rfl hv_CH_isSign.2 ⟨Nat.le_of_ble_eq_true rfl, Nat.le_of_ble_eq_true rfl⟩) (tt_ropreS (w := []) hK hP [] rfl) rfl rfl hl.1 rfl (lv_room (Nat.le_of_ble_eq_true rfl)) d_SC_tokenAt_220 ⟨Nat.zero_le _, Nat.zero_le _⟩) hS hP (fun H locs hP hS => ?_)
                refine lv_if_eq (tgt := 230) hx hb d_SC_tokenAt_223 (by decide) (fun c_223 => ?_) (fun c_223 => ?_)
                · have c_223 := tt_b0.mp c_223
                  refine lv_bipush (v := 7) hx hb d_SC_tokenAt_230 (by decide) ?_
                  have o_r : (7 : Int32) = (tt_tok f n i) := by first | contradiction | (simp [tt_tok, tt_b, c_2, c_12, c_33, c_90, c_97, c_144, c_156, c_223] <;> (intros; omega))
                  have o_u : (tt_to f n i : Nat) = (i + 1) := by first | contradiction | (simp [tt_to, tt_b, c_2, c_12, c_33, c_90, c_97, c_144, c_156, c_223] <;> (intros; omega))
                  have hP9 : va_P D vwCl [(a, .inr (1, [.ref r, .int (nI n)])), (r, .inl (cB, 16384, .inl f)), (q, .inr (4, [.int tk, .int (nI i), .int (nI (i + 1))]))] H := hP.sub [0, 1, 2] rfl
                  have hD9 : va_D A [(a, .inr (1, [.ref r, .int (nI n)])), (r, .inl (cB, 16384, .inl f)), (q, .inr (4, [.int tk, .int (nI i), .int (nI (i + 1))]))] := hD.sub [0, 1, 2] (by decide) rfl
                  have hP9 : va_P D vwCl [(a, .inr (1, [.ref r, .int (nI n)])), (r, .inl (cB, 16384, .inl f)), (q, .inr (4, [.int tk, .int (nI i), .int (nI (tt_to f n i))]))] H := by rw [o_u]; exact hP9
                  have hD9 : va_D A [(a, .inr (1, [.ref r, .int (nI n)])), (r, .inl (cB, 16384, .inl f)), (q, .inr (4, [.int tk, .int (nI i), .int (nI (tt_to f n i))]))] := by rw [o_u]; exact hD9
                  exact W.iret (v := 7) hx hb hr (fun t ht hW => ⟨⟨_, (), rfl, o_r, by rw [ht]; exact hP9, hD9⟩, hS.F ht⟩) hS.2.2 d_SC_tokenAt_232
                · have c_223 := tt_bn0.mp c_223
                  refine lv_iload_n hx hb d_SC_tokenAt_226 rfl (lv_at hl 2 rfl) ?_
                  refine lv_goto (tgt := 232) hx hb d_SC_tokenAt_227 (by decide) ?_
                  have o_r : (tt_ch f n i) = (tt_tok f n i) := by first | contradiction | (simp [tt_tok, tt_b, c_2, c_12, c_33, c_90, c_97, c_144, c_156, c_223] <;> (intros; omega))
                  have o_u : (tt_to f n i : Nat) = (i + 1) := by first | contradiction | (simp [tt_to, tt_b, c_2, c_12, c_33, c_90, c_97, c_144, c_156, c_223] <;> (intros; omega))
                  have hP9 : va_P D vwCl [(a, .inr (1, [.ref r, .int (nI n)])), (r, .inl (cB, 16384, .inl f)), (q, .inr (4, [.int tk, .int (nI i), .int (nI (i + 1))]))] H := hP.sub [0, 1, 2] rfl
                  have hD9 : va_D A [(a, .inr (1, [.ref r, .int (nI n)])), (r, .inl (cB, 16384, .inl f)), (q, .inr (4, [.int tk, .int (nI i), .int (nI (i + 1))]))] := hD.sub [0, 1, 2] (by decide) rfl
                  have hP9 : va_P D vwCl [(a, .inr (1, [.ref r, .int (nI n)])), (r, .inl (cB, 16384, .inl f)), (q, .inr (4, [.int tk, .int (nI i), .int (nI (tt_to f n i))]))] H := by rw [o_u]; exact hP9
                  have hD9 : va_D A [(a, .inr (1, [.ref r, .int (nI n)])), (r, .inl (cB, 16384, .inl f)), (q, .inr (4, [.int tk, .int (nI i), .int (nI (tt_to f n i))]))] := by rw [o_u]; exact hD9
                  exact W.iret (v := tt_ch f n i) hx hb hr (fun t ht hW => ⟨⟨_, (), rfl, o_r, by rw [ht]; exact hP9, hD9⟩, hS.F ht⟩) hS.2.2 d_SC_tokenAt_232
              · skip
                refine lv_aload_n hx hb d_SC_tokenAt_159 rfl (lv_at hl 1 rfl) ?_
                refine lv_iconst (v := 2) hx hb d_SC_tokenAt_160 (by decide) ?_
                refine lv_aload_n hx hb d_SC_tokenAt_161 rfl (lv_at hl 0 rfl) ?_
                refine va_get (D := D) (ci := 4) (v := .int (nI i)) (C := R_SC) (T := F_SC) (N := 3) hx hb htT i_SC hown hK hP 2 rfl rfl 1 (by decide) (htT _ k_115) (fun _ h9 => h9) rfl d_SC_tokenAt_162 ?_
                refine lv_iconst (v := 1) hx hb d_SC_tokenAt_165 (by decide) ?_
                refine lv_iadd hx hb d_SC_tokenAt_166 ?_
                refine tt_ti (show (nI i) + 1 = nI (i + 1) from nI_add i 1) ?_
                refine tt_roI (va_runV (As := [.int 2, .int (nI (i + 1))]) (rest := []) ⟨hx, hb, hml, hown, hts⟩ (c_BY_behindAll2 l D cI cB cL a r f n (i + 1) (by omega) (by omega)) (cwV 2 hts (tt_gV k_218 k_219 k_220 k_2 k_221) rfl rfl rfl hv_BY_behindAll ⟨Nat.le_of_ble_eq_true rfl, Nat.le_of_ble_eq_true rfl⟩) (tt_ropreV (w := [(a, .inr (1, [.ref r, .int (nI n)])), (r, .inl (cB, 16384, .inl f))]) hK hP [0, 1] rfl (va_recv hK hP (ci := 1) (q0 := 0) rfl rfl)) rfl rfl hl.1 rfl (lv_room (Nat.le_of_ble_eq_true rfl)) d_SC_tokenAt_167 ⟨Nat.zero_le _, Nat.zero_le _⟩) hS hP (fun H locs hP hS => ?_)
                have b_167_0 := tt_swb (fun j => tt_wd (tt_ch f n j)) n (i + 1)
                refine lv_istore_n (lv' := [(3, .int (nI (tt_sw (fun j => tt_wd (tt_ch f n j)) n (i + 1)))), (0, .ref q), (1, .ref a), (2, .int (tt_ch f n i))]) hx hb d_SC_tokenAt_170 rfl hl (by decide) rfl (fun ls hl => ?_)
                refine lv_aload_n hx hb d_SC_tokenAt_171 rfl (lv_at hl 1 rfl) ?_
                refine lv_iload_n hx hb d_SC_tokenAt_172 rfl (lv_at hl 0 rfl) ?_
                refine lv_aload_n hx hb d_SC_tokenAt_173 rfl (lv_at hl 1 rfl) ?_
                refine va_get (D := D) (ci := 4) (v := .int (nI i)) (C := R_SC) (T := F_SC) (N := 3) hx hb htT i_SC hown hK hP 2 rfl rfl 1 (by decide) (htT _ k_115) (fun _ h9 => h9) rfl d_SC_tokenAt_174 ?_
                refine lv_iconst (v := 1) hx hb d_SC_tokenAt_177 (by decide) ?_
                refine lv_iadd hx hb d_SC_tokenAt_178 ?_
                refine tt_ti (show (nI i) + 1 = nI (i + 1) from nI_add i 1) ?_
                refine lv_bipush (v := 31) hx hb d_SC_tokenAt_179 (by decide) ?_
                refine lv_iadd hx hb d_SC_tokenAt_181 ?_
                refine tt_ti (show (nI (i + 1)) + 31 = nI (i + 32) from nI_add (i + 1) 31) ?_
                refine va_mmin hx hb (by rw [hml]; exact hl.1.symm) hown (htT _ k_243) (htT _ k_244) (htT _ k_15) (htT _ k_245) (Nat.le_of_ble_eq_true rfl) (Nat.le_of_ble_eq_true rfl) (Nat.zero_le _) (Nat.zero_le _) d_SC_tokenAt_182 ?_
                refine tt_ti (show (if nI (i + 32) < nI (tt_sw (fun j => tt_wd (tt_ch f n j)) n (i + 1)) then nI (i + 32) else nI (tt_sw (fun j => tt_wd (tt_ch f n j)) n (i + 1))) = nI (min (tt_sw (fun j => tt_wd (tt_ch f n j)) n (i + 1)) (i + 32)) from tt_min (by omega) (by omega)) ?_
                refine va_put (D := D) (ci := 4) (v := .int (nI (min (tt_sw (fun j => tt_wd (tt_ch f n j)) n (i + 1)) (i + 32)))) (ty := .int) (C := R_SC) (T := F_SC) (N := 3) hx hb htT i_SC t_SC t_SC_ok n_SC hown hK hP hD hS 2 rfl rfl 2 (by decide) (htT _ k_117) (fun _ h9 => h9) rfl (by decide +kernel) rfl rfl (Nat.le_of_ble_eq_true rfl) d_SC_tokenAt_185 (fun H locs hP hD hS => ?_)
                have hP : va_P D vwCl [(a, .inr (1, [.ref r, .int (nI n)])), (r, .inl (cB, 16384, .inl f)), (q, .inr (4, [.int tk, .int (nI i), .int (nI (min (tt_sw (fun j => tt_wd (tt_ch f n j)) n (i + 1)) (i + 32)))]))] H := hP
                have hD : va_D A [(a, .inr (1, [.ref r, .int (nI n)])), (r, .inl (cB, 16384, .inl f)), (q, .inr (4, [.int tk, .int (nI i), .int (nI (min (tt_sw (fun j => tt_wd (tt_ch f n j)) n (i + 1)) (i + 32)))]))] := hD
                refine lv_aload_n hx hb d_SC_tokenAt_188 rfl (lv_at hl 1 rfl) ?_
                refine va_get (D := D) (ci := 4) (v := .int (nI (min (tt_sw (fun j => tt_wd (tt_ch f n j)) n (i + 1)) (i + 32)))) (C := R_SC) (T := F_SC) (N := 3) hx hb htT i_SC hown hK hP 2 rfl rfl 2 (by decide) (htT _ k_117) (fun _ h9 => h9) rfl d_SC_tokenAt_189 ?_
                refine lv_aload_n hx hb d_SC_tokenAt_192 rfl (lv_at hl 1 rfl) ?_
                refine va_get (D := D) (ci := 4) (v := .int (nI i)) (C := R_SC) (T := F_SC) (N := 3) hx hb htT i_SC hown hK hP 2 rfl rfl 1 (by decide) (htT _ k_115) (fun _ h9 => h9) rfl d_SC_tokenAt_193 ?_
                refine lv_iconst (v := 1) hx hb d_SC_tokenAt_196 (by decide) ?_
                refine lv_iadd hx hb d_SC_tokenAt_197 ?_
                refine tt_ti (show (nI i) + 1 = nI (i + 1) from nI_add i 1) ?_
                refine lv_icmp_ne (tgt := 206) hx hb d_SC_tokenAt_198 (by decide) (fun c_198 => ?_) (fun c_198 => ?_)
                · have c_198 : ¬ (min (tt_sw (fun j => tt_wd (tt_ch f n j)) n (i + 1)) (i + 32)) = (i + 1) := fun z9 => c_198 ((nI_eq (a := (min (tt_sw (fun j => tt_wd (tt_ch f n j)) n (i + 1)) (i + 32))) (b := (i + 1)) (by omega) (by omega)).mpr z9)
                  refine lv_bipush (v := 6) hx hb d_SC_tokenAt_206 (by decide) ?_
                  have o_r : (6 : Int32) = (tt_tok f n i) := by first | contradiction | (simp [tt_tok, tt_b, c_2, c_12, c_33, c_90, c_97, c_144, eq_true c_156, c_198] <;> (intros; omega))
                  have o_u : (tt_to f n i : Nat) = (min (tt_sw (fun j => tt_wd (tt_ch f n j)) n (i + 1)) (i + 32)) := by first | contradiction | (simp [tt_to, tt_b, c_2, c_12, c_33, c_90, c_97, c_144, eq_true c_156, c_198] <;> (intros; omega))
                  have hP9 : va_P D vwCl [(a, .inr (1, [.ref r, .int (nI n)])), (r, .inl (cB, 16384, .inl f)), (q, .inr (4, [.int tk, .int (nI i), .int (nI (min (tt_sw (fun j => tt_wd (tt_ch f n j)) n (i + 1)) (i + 32)))]))] H := hP.sub [0, 1, 2] rfl
                  have hD9 : va_D A [(a, .inr (1, [.ref r, .int (nI n)])), (r, .inl (cB, 16384, .inl f)), (q, .inr (4, [.int tk, .int (nI i), .int (nI (min (tt_sw (fun j => tt_wd (tt_ch f n j)) n (i + 1)) (i + 32)))]))] := hD.sub [0, 1, 2] (by decide) rfl
                  have hP9 : va_P D vwCl [(a, .inr (1, [.ref r, .int (nI n)])), (r, .inl (cB, 16384, .inl f)), (q, .inr (4, [.int tk, .int (nI i), .int (nI (tt_to f n i))]))] H := by rw [o_u]; exact hP9
                  have hD9 : va_D A [(a, .inr (1, [.ref r, .int (nI n)])), (r, .inl (cB, 16384, .inl f)), (q, .inr (4, [.int tk, .int (nI i), .int (nI (tt_to f n i))]))] := by rw [o_u]; exact hD9
                  exact W.iret (v := 6) hx hb hr (fun t ht hW => ⟨⟨_, (), rfl, o_r, by rw [ht]; exact hP9, hD9⟩, hS.F ht⟩) hS.2.2 d_SC_tokenAt_208
                · have c_198 : (min (tt_sw (fun j => tt_wd (tt_ch f n j)) n (i + 1)) (i + 32)) = (i + 1) := (nI_eq (a := (min (tt_sw (fun j => tt_wd (tt_ch f n j)) n (i + 1)) (i + 32))) (b := (i + 1)) (by omega) (by omega)).mp c_198
                  refine lv_bipush (v := 7) hx hb d_SC_tokenAt_201 (by decide) ?_
                  refine lv_goto (tgt := 208) hx hb d_SC_tokenAt_203 (by decide) ?_
                  have o_r : (7 : Int32) = (tt_tok f n i) := by first | contradiction | (simp [tt_tok, tt_b, c_2, c_12, c_33, c_90, c_97, c_144, eq_true c_156, eq_true c_198] <;> (intros; omega))
                  have o_u : (tt_to f n i : Nat) = (min (tt_sw (fun j => tt_wd (tt_ch f n j)) n (i + 1)) (i + 32)) := by first | contradiction | (simp [tt_to, tt_b, c_2, c_12, c_33, c_90, c_97, c_144, eq_true c_156, eq_true c_198] <;> (intros; omega))
                  have hP9 : va_P D vwCl [(a, .inr (1, [.ref r, .int (nI n)])), (r, .inl (cB, 16384, .inl f)), (q, .inr (4, [.int tk, .int (nI i), .int (nI (min (tt_sw (fun j => tt_wd (tt_ch f n j)) n (i + 1)) (i + 32)))]))] H := hP.sub [0, 1, 2] rfl
                  have hD9 : va_D A [(a, .inr (1, [.ref r, .int (nI n)])), (r, .inl (cB, 16384, .inl f)), (q, .inr (4, [.int tk, .int (nI i), .int (nI (min (tt_sw (fun j => tt_wd (tt_ch f n j)) n (i + 1)) (i + 32)))]))] := hD.sub [0, 1, 2] (by decide) rfl
                  have hP9 : va_P D vwCl [(a, .inr (1, [.ref r, .int (nI n)])), (r, .inl (cB, 16384, .inl f)), (q, .inr (4, [.int tk, .int (nI i), .int (nI (tt_to f n i))]))] H := by rw [o_u]; exact hP9
                  have hD9 : va_D A [(a, .inr (1, [.ref r, .int (nI n)])), (r, .inl (cB, 16384, .inl f)), (q, .inr (4, [.int tk, .int (nI i), .int (nI (tt_to f n i))]))] := by rw [o_u]; exact hD9
                  exact W.iret (v := 7) hx hb hr (fun t ht hW => ⟨⟨_, (), rfl, o_r, by rw [ht]; exact hP9, hD9⟩, hS.F ht⟩) hS.2.2 d_SC_tokenAt_208
            · skip
              refine lv_aload_n hx hb d_SC_tokenAt_147 rfl (lv_at hl 0 rfl) ?_
              refine lv_aload_n hx hb d_SC_tokenAt_148 rfl (lv_at hl 1 rfl) ?_
              refine tt_muI (wr := []) (va_runV (As := [.ref a]) (rest := []) ⟨hx, hb, hml, hown, hts⟩ (c_SC_stringOrNone l D cI cB cL a r f n q tk i (by omega) (by omega) _) (cwV 1 hts (tt_gV k_233 k_235 ks_1 k_5 k_236) rfl rfl rfl hv_SC_stringOrNone ⟨Nat.le_of_ble_eq_true rfl, Nat.le_of_ble_eq_true rfl⟩) (tt_mupreV (w := [(a, .inr (1, [.ref r, .int (nI n)])), (r, .inl (cB, 16384, .inl f)), (q, .inr (4, [.int tk, .int (nI i), .int (nI i)]))]) hK hP hD [0, 1, 2] rfl (by decide) rfl (va_recv hK hP (ci := 4) (q0 := 2) rfl rfl)) rfl rfl hl.1 rfl (lv_room (Nat.le_of_ble_eq_true rfl)) d_SC_tokenAt_149 ⟨Nat.zero_le _, Nat.zero_le _⟩) hS hP hD hA [0, 1, 2] [] rfl rfl (by decide) (by decide) (fun H locs hP hD hS => ?_)
              have hP : va_P D vwCl [(a, .inr (1, [.ref r, .int (nI n)])), (r, .inl (cB, 16384, .inl f)), (q, .inr (4, [.int tk, .int (nI i), .int (nI (if tt_str f n (i + 1) = 0 then i else tt_str f n (i + 1)))]))] H := hP
              have hD : va_D A [(a, .inr (1, [.ref r, .int (nI n)])), (r, .inl (cB, 16384, .inl f)), (q, .inr (4, [.int tk, .int (nI i), .int (nI (if tt_str f n (i + 1) = 0 then i else tt_str f n (i + 1)))]))] := hD
              have o_r : (if tt_str f n (i + 1) = 0 then 7 else 1) = (tt_tok f n i) := by first | contradiction | (simp [tt_tok, tt_b, c_2, c_12, c_33, c_90, c_97, eq_true c_144] <;> (intros; omega))
              have o_u : (tt_to f n i : Nat) = (if tt_str f n (i + 1) = 0 then i else tt_str f n (i + 1)) := by first | contradiction | (simp [tt_to, tt_b, c_2, c_12, c_33, c_90, c_97, eq_true c_144] <;> (intros; omega))
              have hP9 : va_P D vwCl [(a, .inr (1, [.ref r, .int (nI n)])), (r, .inl (cB, 16384, .inl f)), (q, .inr (4, [.int tk, .int (nI i), .int (nI (if tt_str f n (i + 1) = 0 then i else tt_str f n (i + 1)))]))] H := hP.sub [0, 1, 2] rfl
              have hD9 : va_D A [(a, .inr (1, [.ref r, .int (nI n)])), (r, .inl (cB, 16384, .inl f)), (q, .inr (4, [.int tk, .int (nI i), .int (nI (if tt_str f n (i + 1) = 0 then i else tt_str f n (i + 1)))]))] := hD.sub [0, 1, 2] (by decide) rfl
              have hP9 : va_P D vwCl [(a, .inr (1, [.ref r, .int (nI n)])), (r, .inl (cB, 16384, .inl f)), (q, .inr (4, [.int tk, .int (nI i), .int (nI (tt_to f n i))]))] H := by rw [o_u]; exact hP9
              have hD9 : va_D A [(a, .inr (1, [.ref r, .int (nI n)])), (r, .inl (cB, 16384, .inl f)), (q, .inr (4, [.int tk, .int (nI i), .int (nI (tt_to f n i))]))] := by rw [o_u]; exact hD9
              exact W.iret (v := if tt_str f n (i + 1) = 0 then 7 else 1) hx hb hr (fun t ht hW => ⟨⟨_, (), rfl, o_r, by rw [ht]; exact hP9, hD9⟩, hS.F ht⟩) hS.2.2 d_SC_tokenAt_152
          · have c_97 := tt_bn0.mp c_97
            refine lv_aload_n hx hb d_SC_tokenAt_100 rfl (lv_at hl 0 rfl) ?_
            refine lv_aload_n hx hb d_SC_tokenAt_101 rfl (lv_at hl 1 rfl) ?_
            refine lv_iconst (v := 0) hx hb d_SC_tokenAt_102 (by decide) ?_
            refine lv_aload_n hx hb d_SC_tokenAt_103 rfl (lv_at hl 0 rfl) ?_
            refine va_get (D := D) (ci := 4) (v := .int (nI i)) (C := R_SC) (T := F_SC) (N := 3) hx hb htT i_SC hown hK hP 2 rfl rfl 1 (by decide) (htT _ k_115) (fun _ h9 => h9) rfl d_SC_tokenAt_104 ?_
            refine lv_iconst (v := 1) hx hb d_SC_tokenAt_107 (by decide) ?_
            refine lv_iadd hx hb d_SC_tokenAt_108 ?_
            refine tt_ti (show (nI i) + 1 = nI (i + 1) from nI_add i 1) ?_
            refine tt_roI (va_runV (As := [.int 0, .int (nI (i + 1))]) (rest := [.ref q]) ⟨hx, hb, hml, hown, hts⟩ (c_BY_behindAll0 l D cI cB cL a r f n (i + 1) (by omega) (by omega)) (cwV 2 hts (tt_gV k_218 k_219 k_220 k_2 k_221) rfl rfl rfl hv_BY_behindAll ⟨Nat.le_of_ble_eq_true rfl, Nat.le_of_ble_eq_true rfl⟩) (tt_ropreV (w := [(a, .inr (1, [.ref r, .int (nI n)])), (r, .inl (cB, 16384, .inl f))]) hK hP [0, 1] rfl (va_recv hK hP (ci := 1) (q0 := 0) rfl rfl)) rfl rfl hl.1 rfl (lv_room (Nat.le_of_ble_eq_true rfl)) d_SC_tokenAt_109 ⟨Nat.zero_le _, Nat.zero_le _⟩) hS hP (fun H locs hP hS => ?_)
            have b_109_0 := tt_swb (fun j => tt_dig (tt_ch f n j)) n (i + 1)
            refine va_put (D := D) (ci := 4) (v := .int (nI (tt_sw (fun j => tt_dig (tt_ch f n j)) n (i + 1)))) (ty := .int) (C := R_SC) (T := F_SC) (N := 3) hx hb htT i_SC t_SC t_SC_ok n_SC hown hK hP hD hS 2 rfl rfl 2 (by decide) (htT _ k_117) (fun _ h9 => h9) rfl (by decide +kernel) rfl rfl (Nat.le_of_ble_eq_true rfl) d_SC_tokenAt_112 (fun H locs hP hD hS => ?_)
            have hP : va_P D vwCl [(a, .inr (1, [.ref r, .int (nI n)])), (r, .inl (cB, 16384, .inl f)), (q, .inr (4, [.int tk, .int (nI i), .int (nI (tt_sw (fun j => tt_dig (tt_ch f n j)) n (i + 1)))]))] H := hP
            have hD : va_D A [(a, .inr (1, [.ref r, .int (nI n)])), (r, .inl (cB, 16384, .inl f)), (q, .inr (4, [.int tk, .int (nI i), .int (nI (tt_sw (fun j => tt_dig (tt_ch f n j)) n (i + 1)))]))] := hD
            refine lv_iload_n hx hb d_SC_tokenAt_115 rfl (lv_at hl 2 rfl) ?_
            refine lv_bipush (v := 45) hx hb d_SC_tokenAt_116 (by decide) ?_
            refine lv_icmp_ne (tgt := 139) hx hb d_SC_tokenAt_118 (by decide) (fun c_118 => ?_) (fun c_118 => ?_)
            · skip
              refine lv_iconst (v := 0) hx hb d_SC_tokenAt_139 (by decide) ?_
              have o_r : (0 : Int32) = (tt_tok f n i) := by first | contradiction | (simp [tt_tok, tt_b, c_2, c_12, c_33, c_90, c_97, c_118] <;> (intros; omega))
              have o_u : (tt_to f n i : Nat) = (tt_sw (fun j => tt_dig (tt_ch f n j)) n (i + 1)) := by first | contradiction | (simp [tt_to, tt_b, c_2, c_12, c_33, c_90, c_97, c_118] <;> (intros; omega))
              have hP9 : va_P D vwCl [(a, .inr (1, [.ref r, .int (nI n)])), (r, .inl (cB, 16384, .inl f)), (q, .inr (4, [.int tk, .int (nI i), .int (nI (tt_sw (fun j => tt_dig (tt_ch f n j)) n (i + 1)))]))] H := hP.sub [0, 1, 2] rfl
              have hD9 : va_D A [(a, .inr (1, [.ref r, .int (nI n)])), (r, .inl (cB, 16384, .inl f)), (q, .inr (4, [.int tk, .int (nI i), .int (nI (tt_sw (fun j => tt_dig (tt_ch f n j)) n (i + 1)))]))] := hD.sub [0, 1, 2] (by decide) rfl
              have hP9 : va_P D vwCl [(a, .inr (1, [.ref r, .int (nI n)])), (r, .inl (cB, 16384, .inl f)), (q, .inr (4, [.int tk, .int (nI i), .int (nI (tt_to f n i))]))] H := by rw [o_u]; exact hP9
              have hD9 : va_D A [(a, .inr (1, [.ref r, .int (nI n)])), (r, .inl (cB, 16384, .inl f)), (q, .inr (4, [.int tk, .int (nI i), .int (nI (tt_to f n i))]))] := by rw [o_u]; exact hD9
              exact W.iret (v := 0) hx hb hr (fun t ht hW => ⟨⟨_, (), rfl, o_r, by rw [ht]; exact hP9, hD9⟩, hS.F ht⟩) hS.2.2 d_SC_tokenAt_140
            · skip
              refine lv_aload_n hx hb d_SC_tokenAt_121 rfl (lv_at hl 0 rfl) ?_
              refine va_get (D := D) (ci := 4) (v := .int (nI (tt_sw (fun j => tt_dig (tt_ch f n j)) n (i + 1)))) (C := R_SC) (T := F_SC) (N := 3) hx hb htT i_SC hown hK hP 2 rfl rfl 2 (by decide) (htT _ k_117) (fun _ h9 => h9) rfl d_SC_tokenAt_122 ?_
              refine lv_aload_n hx hb d_SC_tokenAt_125 rfl (lv_at hl 0 rfl) ?_
              refine va_get (D := D) (ci := 4) (v := .int (nI i)) (C := R_SC) (T := F_SC) (N := 3) hx hb htT i_SC hown hK hP 2 rfl rfl 1 (by decide) (htT _ k_115) (fun _ h9 => h9) rfl d_SC_tokenAt_126 ?_
              refine lv_iconst (v := 1) hx hb d_SC_tokenAt_129 (by decide) ?_
              refine lv_iadd hx hb d_SC_tokenAt_130 ?_
              refine tt_ti (show (nI i) + 1 = nI (i + 1) from nI_add i 1) ?_
              refine lv_icmp_ne (tgt := 139) hx hb d_SC_tokenAt_131 (by decide) (fun c_131 => ?_) (fun c_131 => ?_)
              · have c_131 : ¬ (tt_sw (fun j => tt_dig (tt_ch f n j)) n (i + 1)) = (i + 1) := fun z9 => c_131 ((nI_eq (a := (tt_sw (fun j => tt_dig (tt_ch f n j)) n (i + 1))) (b := (i + 1)) (by omega) (by omega)).mpr z9)
                refine lv_iconst (v := 0) hx hb d_SC_tokenAt_139 (by decide) ?_
                have o_r : (0 : Int32) = (tt_tok f n i) := by first | contradiction | (simp [tt_tok, tt_b, c_2, c_12, c_33, c_90, c_97, eq_true c_118, c_131] <;> (intros; omega))
                have o_u : (tt_to f n i : Nat) = (tt_sw (fun j => tt_dig (tt_ch f n j)) n (i + 1)) := by first | contradiction | (simp [tt_to, tt_b, c_2, c_12, c_33, c_90, c_97, eq_true c_118, c_131] <;> (intros; omega))
                have hP9 : va_P D vwCl [(a, .inr (1, [.ref r, .int (nI n)])), (r, .inl (cB, 16384, .inl f)), (q, .inr (4, [.int tk, .int (nI i), .int (nI (tt_sw (fun j => tt_dig (tt_ch f n j)) n (i + 1)))]))] H := hP.sub [0, 1, 2] rfl
                have hD9 : va_D A [(a, .inr (1, [.ref r, .int (nI n)])), (r, .inl (cB, 16384, .inl f)), (q, .inr (4, [.int tk, .int (nI i), .int (nI (tt_sw (fun j => tt_dig (tt_ch f n j)) n (i + 1)))]))] := hD.sub [0, 1, 2] (by decide) rfl
                have hP9 : va_P D vwCl [(a, .inr (1, [.ref r, .int (nI n)])), (r, .inl (cB, 16384, .inl f)), (q, .inr (4, [.int tk, .int (nI i), .int (nI (tt_to f n i))]))] H := by rw [o_u]; exact hP9
                have hD9 : va_D A [(a, .inr (1, [.ref r, .int (nI n)])), (r, .inl (cB, 16384, .inl f)), (q, .inr (4, [.int tk, .int (nI i), .int (nI (tt_to f n i))]))] := by rw [o_u]; exact hD9
                exact W.iret (v := 0) hx hb hr (fun t ht hW => ⟨⟨_, (), rfl, o_r, by rw [ht]; exact hP9, hD9⟩, hS.F ht⟩) hS.2.2 d_SC_tokenAt_140
              · have c_131 : (tt_sw (fun j => tt_dig (tt_ch f n j)) n (i + 1)) = (i + 1) := (nI_eq (a := (tt_sw (fun j => tt_dig (tt_ch f n j)) n (i + 1))) (b := (i + 1)) (by omega) (by omega)).mp c_131
                refine lv_bipush (v := 7) hx hb d_SC_tokenAt_134 (by decide) ?_
                refine lv_goto (tgt := 140) hx hb d_SC_tokenAt_136 (by decide) ?_
                have o_r : (7 : Int32) = (tt_tok f n i) := by first | contradiction | (simp [tt_tok, tt_b, c_2, c_12, c_33, c_90, c_97, eq_true c_118, eq_true c_131] <;> (intros; omega))
                have o_u : (tt_to f n i : Nat) = (tt_sw (fun j => tt_dig (tt_ch f n j)) n (i + 1)) := by first | contradiction | (simp [tt_to, tt_b, c_2, c_12, c_33, c_90, c_97, eq_true c_118, eq_true c_131] <;> (intros; omega))
                have hP9 : va_P D vwCl [(a, .inr (1, [.ref r, .int (nI n)])), (r, .inl (cB, 16384, .inl f)), (q, .inr (4, [.int tk, .int (nI i), .int (nI (tt_sw (fun j => tt_dig (tt_ch f n j)) n (i + 1)))]))] H := hP.sub [0, 1, 2] rfl
                have hD9 : va_D A [(a, .inr (1, [.ref r, .int (nI n)])), (r, .inl (cB, 16384, .inl f)), (q, .inr (4, [.int tk, .int (nI i), .int (nI (tt_sw (fun j => tt_dig (tt_ch f n j)) n (i + 1)))]))] := hD.sub [0, 1, 2] (by decide) rfl
                have hP9 : va_P D vwCl [(a, .inr (1, [.ref r, .int (nI n)])), (r, .inl (cB, 16384, .inl f)), (q, .inr (4, [.int tk, .int (nI i), .int (nI (tt_to f n i))]))] H := by rw [o_u]; exact hP9
                have hD9 : va_D A [(a, .inr (1, [.ref r, .int (nI n)])), (r, .inl (cB, 16384, .inl f)), (q, .inr (4, [.int tk, .int (nI i), .int (nI (tt_to f n i))]))] := by rw [o_u]; exact hD9
                exact W.iret (v := 7) hx hb hr (fun t ht hW => ⟨⟨_, (), rfl, o_r, by rw [ht]; exact hP9, hD9⟩, hS.F ht⟩) hS.2.2 d_SC_tokenAt_140
      · skip
        refine lv_aload_n hx hb d_SC_tokenAt_36 rfl (lv_at hl 1 rfl) ?_
        refine lv_aload_n hx hb d_SC_tokenAt_37 rfl (lv_at hl 0 rfl) ?_
        refine va_get (D := D) (ci := 4) (v := .int (nI i)) (C := R_SC) (T := F_SC) (N := 3) hx hb htT i_SC hown hK hP 2 rfl rfl 1 (by decide) (htT _ k_115) (fun _ h9 => h9) rfl d_SC_tokenAt_38 ?_
        refine lv_iconst (v := 1) hx hb d_SC_tokenAt_41 (by decide) ?_
        refine lv_iadd hx hb d_SC_tokenAt_42 ?_
        refine tt_ti (show (nI i) + 1 = nI (i + 1) from nI_add i 1) ?_
        refine tt_roI (va_runV (As := [.int (nI (i + 1))]) (rest := []) ⟨hx, hb, hml, hown, hts⟩ (c_BY_at l D cI cB cL a r f n (i + 1) (by omega) (by omega)) (cwV 1 hts (tt_gV k_207 k_174 k_175 k_2 k_176) rfl rfl rfl hv_BY_at ⟨Nat.le_of_ble_eq_true rfl, Nat.le_of_ble_eq_true rfl⟩) (tt_ropreV (w := [(a, .inr (1, [.ref r, .int (nI n)])), (r, .inl (cB, 16384, .inl f))]) hK hP [0, 1] rfl (va_recv hK hP (ci := 1) (q0 := 0) rfl rfl)) rfl rfl hl.1 rfl (lv_room (Nat.le_of_ble_eq_true rfl)) d_SC_tokenAt_43 ⟨Nat.zero_le _, Nat.zero_le _⟩) hS hP (fun H locs hP hS => ?_)
        refine lv_bipush (v := 120) hx hb d_SC_tokenAt_46 (by decide) ?_
        refine lv_icmp_ne (tgt := 87) hx hb d_SC_tokenAt_48 (by decide) (fun c_48 => ?_) (fun c_48 => ?_)
        · skip
          refine lv_iload_n hx hb d_SC_tokenAt_87 rfl (lv_at hl 2 rfl) ?_
          refine lv_bipush (v := 45) hx hb d_SC_tokenAt_88 (by decide) ?_
          refine lv_icmp_eq (tgt := 100) hx hb d_SC_tokenAt_90 (by decide) (fun c_90 => ?_) (fun c_90 => ?_)
          · skip
            refine lv_aload_n hx hb d_SC_tokenAt_100 rfl (lv_at hl 0 rfl) ?_
            refine lv_aload_n hx hb d_SC_tokenAt_101 rfl (lv_at hl 1 rfl) ?_
            refine lv_iconst (v := 0) hx hb d_SC_tokenAt_102 (by decide) ?_
            refine lv_aload_n hx hb d_SC_tokenAt_103 rfl (lv_at hl 0 rfl) ?_
            refine va_get (D := D) (ci := 4) (v := .int (nI i)) (C := R_SC) (T := F_SC) (N := 3) hx hb htT i_SC hown hK hP 2 rfl rfl 1 (by decide) (htT _ k_115) (fun _ h9 => h9) rfl d_SC_tokenAt_104 ?_
            refine lv_iconst (v := 1) hx hb d_SC_tokenAt_107 (by decide) ?_
            refine lv_iadd hx hb d_SC_tokenAt_108 ?_
            refine tt_ti (show (nI i) + 1 = nI (i + 1) from nI_add i 1) ?_
            refine tt_roI (va_runV (As := [.int 0, .int (nI (i + 1))]) (rest := [.ref q]) ⟨hx, hb, hml, hown, hts⟩ (c_BY_behindAll0 l D cI cB cL a r f n (i + 1) (by omega) (by omega)) (cwV 2 hts (tt_gV k_218 k_219 k_220 k_2 k_221) rfl rfl rfl hv_BY_behindAll ⟨Nat.le_of_ble_eq_true rfl, Nat.le_of_ble_eq_true rfl⟩) (tt_ropreV (w := [(a, .inr (1, [.ref r, .int (nI n)])), (r, .inl (cB, 16384, .inl f))]) hK hP [0, 1] rfl (va_recv hK hP (ci := 1) (q0 := 0) rfl rfl)) rfl rfl hl.1 rfl (lv_room (Nat.le_of_ble_eq_true rfl)) d_SC_tokenAt_109 ⟨Nat.zero_le _, Nat.zero_le _⟩) hS hP (fun H locs hP hS => ?_)
            have b_109_0 := tt_swb (fun j => tt_dig (tt_ch f n j)) n (i + 1)
            refine va_put (D := D) (ci := 4) (v := .int (nI (tt_sw (fun j => tt_dig (tt_ch f n j)) n (i + 1)))) (ty := .int) (C := R_SC) (T := F_SC) (N := 3) hx hb htT i_SC t_SC t_SC_ok n_SC hown hK hP hD hS 2 rfl rfl 2 (by decide) (htT _ k_117) (fun _ h9 => h9) rfl (by decide +kernel) rfl rfl (Nat.le_of_ble_eq_true rfl) d_SC_tokenAt_112 (fun H locs hP hD hS => ?_)
            have hP : va_P D vwCl [(a, .inr (1, [.ref r, .int (nI n)])), (r, .inl (cB, 16384, .inl f)), (q, .inr (4, [.int tk, .int (nI i), .int (nI (tt_sw (fun j => tt_dig (tt_ch f n j)) n (i + 1)))]))] H := hP
            have hD : va_D A [(a, .inr (1, [.ref r, .int (nI n)])), (r, .inl (cB, 16384, .inl f)), (q, .inr (4, [.int tk, .int (nI i), .int (nI (tt_sw (fun j => tt_dig (tt_ch f n j)) n (i + 1)))]))] := hD
            refine lv_iload_n hx hb d_SC_tokenAt_115 rfl (lv_at hl 2 rfl) ?_
            refine lv_bipush (v := 45) hx hb d_SC_tokenAt_116 (by decide) ?_
            refine lv_icmp_ne (tgt := 139) hx hb d_SC_tokenAt_118 (by decide) (fun c_118 => ?_) (fun c_118 => ?_)
            · skip
              refine lv_iconst (v := 0) hx hb d_SC_tokenAt_139 (by decide) ?_
              have o_r : (0 : Int32) = (tt_tok f n i) := by first | contradiction | (simp [tt_tok, tt_b, c_2, c_12, eq_true c_33, c_48, eq_true c_90, c_118] <;> (intros; omega))
              have o_u : (tt_to f n i : Nat) = (tt_sw (fun j => tt_dig (tt_ch f n j)) n (i + 1)) := by first | contradiction | (simp [tt_to, tt_b, c_2, c_12, eq_true c_33, c_48, eq_true c_90, c_118] <;> (intros; omega))
              have hP9 : va_P D vwCl [(a, .inr (1, [.ref r, .int (nI n)])), (r, .inl (cB, 16384, .inl f)), (q, .inr (4, [.int tk, .int (nI i), .int (nI (tt_sw (fun j => tt_dig (tt_ch f n j)) n (i + 1)))]))] H := hP.sub [0, 1, 2] rfl
              have hD9 : va_D A [(a, .inr (1, [.ref r, .int (nI n)])), (r, .inl (cB, 16384, .inl f)), (q, .inr (4, [.int tk, .int (nI i), .int (nI (tt_sw (fun j => tt_dig (tt_ch f n j)) n (i + 1)))]))] := hD.sub [0, 1, 2] (by decide) rfl
              have hP9 : va_P D vwCl [(a, .inr (1, [.ref r, .int (nI n)])), (r, .inl (cB, 16384, .inl f)), (q, .inr (4, [.int tk, .int (nI i), .int (nI (tt_to f n i))]))] H := by rw [o_u]; exact hP9
              have hD9 : va_D A [(a, .inr (1, [.ref r, .int (nI n)])), (r, .inl (cB, 16384, .inl f)), (q, .inr (4, [.int tk, .int (nI i), .int (nI (tt_to f n i))]))] := by rw [o_u]; exact hD9
              exact W.iret (v := 0) hx hb hr (fun t ht hW => ⟨⟨_, (), rfl, o_r, by rw [ht]; exact hP9, hD9⟩, hS.F ht⟩) hS.2.2 d_SC_tokenAt_140
            · skip
              refine lv_aload_n hx hb d_SC_tokenAt_121 rfl (lv_at hl 0 rfl) ?_
              refine va_get (D := D) (ci := 4) (v := .int (nI (tt_sw (fun j => tt_dig (tt_ch f n j)) n (i + 1)))) (C := R_SC) (T := F_SC) (N := 3) hx hb htT i_SC hown hK hP 2 rfl rfl 2 (by decide) (htT _ k_117) (fun _ h9 => h9) rfl d_SC_tokenAt_122 ?_
              refine lv_aload_n hx hb d_SC_tokenAt_125 rfl (lv_at hl 0 rfl) ?_
              refine va_get (D := D) (ci := 4) (v := .int (nI i)) (C := R_SC) (T := F_SC) (N := 3) hx hb htT i_SC hown hK hP 2 rfl rfl 1 (by decide) (htT _ k_115) (fun _ h9 => h9) rfl d_SC_tokenAt_126 ?_
              refine lv_iconst (v := 1) hx hb d_SC_tokenAt_129 (by decide) ?_
              refine lv_iadd hx hb d_SC_tokenAt_130 ?_
              refine tt_ti (show (nI i) + 1 = nI (i + 1) from nI_add i 1) ?_
              refine lv_icmp_ne (tgt := 139) hx hb d_SC_tokenAt_131 (by decide) (fun c_131 => ?_) (fun c_131 => ?_)
              · have c_131 : ¬ (tt_sw (fun j => tt_dig (tt_ch f n j)) n (i + 1)) = (i + 1) := fun z9 => c_131 ((nI_eq (a := (tt_sw (fun j => tt_dig (tt_ch f n j)) n (i + 1))) (b := (i + 1)) (by omega) (by omega)).mpr z9)
                refine lv_iconst (v := 0) hx hb d_SC_tokenAt_139 (by decide) ?_
                have o_r : (0 : Int32) = (tt_tok f n i) := by first | contradiction | (simp [tt_tok, tt_b, c_2, c_12, eq_true c_33, c_48, eq_true c_90, eq_true c_118, c_131] <;> (intros; omega))
                have o_u : (tt_to f n i : Nat) = (tt_sw (fun j => tt_dig (tt_ch f n j)) n (i + 1)) := by first | contradiction | (simp [tt_to, tt_b, c_2, c_12, eq_true c_33, c_48, eq_true c_90, eq_true c_118, c_131] <;> (intros; omega))
                have hP9 : va_P D vwCl [(a, .inr (1, [.ref r, .int (nI n)])), (r, .inl (cB, 16384, .inl f)), (q, .inr (4, [.int tk, .int (nI i), .int (nI (tt_sw (fun j => tt_dig (tt_ch f n j)) n (i + 1)))]))] H := hP.sub [0, 1, 2] rfl
                have hD9 : va_D A [(a, .inr (1, [.ref r, .int (nI n)])), (r, .inl (cB, 16384, .inl f)), (q, .inr (4, [.int tk, .int (nI i), .int (nI (tt_sw (fun j => tt_dig (tt_ch f n j)) n (i + 1)))]))] := hD.sub [0, 1, 2] (by decide) rfl
                have hP9 : va_P D vwCl [(a, .inr (1, [.ref r, .int (nI n)])), (r, .inl (cB, 16384, .inl f)), (q, .inr (4, [.int tk, .int (nI i), .int (nI (tt_to f n i))]))] H := by rw [o_u]; exact hP9
                have hD9 : va_D A [(a, .inr (1, [.ref r, .int (nI n)])), (r, .inl (cB, 16384, .inl f)), (q, .inr (4, [.int tk, .int (nI i), .int (nI (tt_to f n i))]))] := by rw [o_u]; exact hD9
                exact W.iret (v := 0) hx hb hr (fun t ht hW => ⟨⟨_, (), rfl, o_r, by rw [ht]; exact hP9, hD9⟩, hS.F ht⟩) hS.2.2 d_SC_tokenAt_140
              · have c_131 : (tt_sw (fun j => tt_dig (tt_ch f n j)) n (i + 1)) = (i + 1) := (nI_eq (a := (tt_sw (fun j => tt_dig (tt_ch f n j)) n (i + 1))) (b := (i + 1)) (by omega) (by omega)).mp c_131
                refine lv_bipush (v := 7) hx hb d_SC_tokenAt_134 (by decide) ?_
                refine lv_goto (tgt := 140) hx hb d_SC_tokenAt_136 (by decide) ?_
                have o_r : (7 : Int32) = (tt_tok f n i) := by first | contradiction | (simp [tt_tok, tt_b, c_2, c_12, eq_true c_33, c_48, eq_true c_90, eq_true c_118, eq_true c_131] <;> (intros; omega))
                have o_u : (tt_to f n i : Nat) = (tt_sw (fun j => tt_dig (tt_ch f n j)) n (i + 1)) := by first | contradiction | (simp [tt_to, tt_b, c_2, c_12, eq_true c_33, c_48, eq_true c_90, eq_true c_118, eq_true c_131] <;> (intros; omega))
                have hP9 : va_P D vwCl [(a, .inr (1, [.ref r, .int (nI n)])), (r, .inl (cB, 16384, .inl f)), (q, .inr (4, [.int tk, .int (nI i), .int (nI (tt_sw (fun j => tt_dig (tt_ch f n j)) n (i + 1)))]))] H := hP.sub [0, 1, 2] rfl
                have hD9 : va_D A [(a, .inr (1, [.ref r, .int (nI n)])), (r, .inl (cB, 16384, .inl f)), (q, .inr (4, [.int tk, .int (nI i), .int (nI (tt_sw (fun j => tt_dig (tt_ch f n j)) n (i + 1)))]))] := hD.sub [0, 1, 2] (by decide) rfl
                have hP9 : va_P D vwCl [(a, .inr (1, [.ref r, .int (nI n)])), (r, .inl (cB, 16384, .inl f)), (q, .inr (4, [.int tk, .int (nI i), .int (nI (tt_to f n i))]))] H := by rw [o_u]; exact hP9
                have hD9 : va_D A [(a, .inr (1, [.ref r, .int (nI n)])), (r, .inl (cB, 16384, .inl f)), (q, .inr (4, [.int tk, .int (nI i), .int (nI (tt_to f n i))]))] := by rw [o_u]; exact hD9
                exact W.iret (v := 7) hx hb hr (fun t ht hW => ⟨⟨_, (), rfl, o_r, by rw [ht]; exact hP9, hD9⟩, hS.F ht⟩) hS.2.2 d_SC_tokenAt_140
          · skip
            refine lv_iload_n hx hb d_SC_tokenAt_93 rfl (lv_at hl 2 rfl) ?_
            refine tt_roI (va_runS (As := [.int (tt_ch f n i)]) (rest := []) ⟨hx, hb, hml, hown, hts⟩ (c_CH_isDigit l D cI cB cL (tt_ch f n i)) (va_cwS 1 hts (tt_gS2 k_232 k_226 k_14 k_227) rfl rfl rfl hv_CH_isDigit.2 ⟨Nat.le_of_ble_eq_true rfl, Nat.le_of_ble_eq_true rfl⟩) (tt_ropreS (w := []) hK hP [] rfl) rfl rfl hl.1 rfl (lv_room (Nat.le_of_ble_eq_true rfl)) d_SC_tokenAt_94 ⟨Nat.zero_le _, Nat.zero_le _⟩) hS hP (fun H locs hP hS => ?_)
            refine lv_if_eq (tgt := 141) hx hb d_SC_tokenAt_97 (by decide) (fun c_97 => ?_) (fun c_97 => ?_)
            · have c_97 := tt_b0.mp c_97
              refine lv_iload_n hx hb d_SC_tokenAt_141 rfl (lv_at hl 2 rfl) ?_
              refine lv_bipush (v := 34) hx hb d_SC_tokenAt_142 (by decide) ?_
              refine lv_icmp_ne (tgt := 153) hx hb d_SC_tokenAt_144 (by decide) (fun c_144 => ?_) (fun c_144 => ?_)
              · skip
                refine lv_iload_n hx hb d_SC_tokenAt_153 rfl (lv_at hl 2 rfl) ?_
                refine lv_bipush (v := 37) hx hb d_SC_tokenAt_154 (by decide) ?_
                refine lv_icmp_ne (tgt := 209) hx hb d_SC_tokenAt_156 (by decide) (fun c_156 => ?_) (fun c_156 => ?_)
                · skip
                  refine lv_aload_n hx hb d_SC_tokenAt_209 rfl (lv_at hl 0 rfl) ?_
                  refine lv_aload_n hx hb d_SC_tokenAt_210 rfl (lv_at hl 0 rfl) ?_
                  refine va_get (D := D) (ci := 4) (v := .int (nI i)) (C := R_SC) (T := F_SC) (N := 3) hx hb htT i_SC hown hK hP 2 rfl rfl 1 (by decide) (htT _ k_115) (fun _ h9 => h9) rfl d_SC_tokenAt_211 ?_
                  refine lv_iconst (v := 1) hx hb d_SC_tokenAt_214 (by decide) ?_
                  refine lv_iadd hx hb d_SC_tokenAt_215 ?_
                  refine tt_ti (show (nI i) + 1 = nI (i + 1) from nI_add i 1) ?_
                  refine va_put (D := D) (ci := 4) (v := .int (nI (i + 1))) (ty := .int) (C := R_SC) (T := F_SC) (N := 3) hx hb htT i_SC t_SC t_SC_ok n_SC hown hK hP hD hS 2 rfl rfl 2 (by decide) (htT _ k_117) (fun _ h9 => h9) rfl (by decide +kernel) rfl rfl (Nat.le_of_ble_eq_true rfl) d_SC_tokenAt_216 (fun H locs hP hD hS => ?_)
                  have hP : va_P D vwCl [(a, .inr (1, [.ref r, .int (nI n)])), (r, .inl (cB, 16384, .inl f)), (q, .inr (4, [.int tk, .int (nI i), .int (nI (i + 1))]))] H := hP
                  have hD : va_D A [(a, .inr (1, [.ref r, .int (nI n)])), (r, .inl (cB, 16384, .inl f)), (q, .inr (4, [.int tk, .int (nI i), .int (nI (i + 1))]))] := hD
                  refine lv_iload_n hx hb d_SC_tokenAt_219 rfl (lv_at hl 2 rfl) ?_
                  refine tt_roI (va_runS (As := [.int (tt_ch f n i)]) (rest := []) ⟨hx, hb, hml, hown, hts⟩ (c_CH_isSign l D cI cB cL (tt_ch f n i)) (va_cwS 1 hts (tt_gS2 k_246 k_247 k_14 k_248) rfl rfl rfl hv_CH_isSign.2 ⟨Nat.le_of_ble_eq_true rfl, Nat.le_of_ble_eq_true rfl⟩) (tt_ropreS (w := []) hK hP [] rfl) rfl rfl hl.1 rfl (lv_room (Nat.le_of_ble_eq_true rfl)) d_SC_tokenAt_220 ⟨Nat.zero_le _, Nat.zero_le _⟩) hS hP (fun H locs hP hS => ?_)
                  refine lv_if_eq (tgt := 230) hx hb d_SC_tokenAt_223 (by decide) (fun c_223 => ?_) (fun c_223 => ?_)
                  · have c_223 := tt_b0.mp c_223
                    refine lv_bipush (v := 7) hx hb d_SC_tokenAt_230 (by decide) ?_
                    have o_r : (7 : Int32) = (tt_tok f n i) := by first | contradiction | (simp [tt_tok, tt_b, c_2, c_12, eq_true c_33, c_48, c_90, c_97, c_144, c_156, c_223] <;> (intros; omega))
                    have o_u : (tt_to f n i : Nat) = (i + 1) := by first | contradiction | (simp [tt_to, tt_b, c_2, c_12, eq_true c_33, c_48, c_90, c_97, c_144, c_156, c_223] <;> (intros; omega))
                    have hP9 : va_P D vwCl [(a, .inr (1, [.ref r, .int (nI n)])), (r, .inl (cB, 16384, .inl f)), (q, .inr (4, [.int tk, .int (nI i), .int (nI (i + 1))]))] H := hP.sub [0, 1, 2] rfl
                    have hD9 : va_D A [(a, .inr (1, [.ref r, .int (nI n)])), (r, .inl (cB, 16384, .inl f)), (q, .inr (4, [.int tk, .int (nI i), .int (nI (i + 1))]))] := hD.sub [0, 1, 2] (by decide) rfl
                    have hP9 : va_P D vwCl [(a, .inr (1, [.ref r, .int (nI n)])), (r, .inl (cB, 16384, .inl f)), (q, .inr (4, [.int tk, .int (nI i), .int (nI (tt_to f n i))]))] H := by rw [o_u]; exact hP9
                    have hD9 : va_D A [(a, .inr (1, [.ref r, .int (nI n)])), (r, .inl (cB, 16384, .inl f)), (q, .inr (4, [.int tk, .int (nI i), .int (nI (tt_to f n i))]))] := by rw [o_u]; exact hD9
                    exact W.iret (v := 7) hx hb hr (fun t ht hW => ⟨⟨_, (), rfl, o_r, by rw [ht]; exact hP9, hD9⟩, hS.F ht⟩) hS.2.2 d_SC_tokenAt_232
                  · have c_223 := tt_bn0.mp c_223
                    refine lv_iload_n hx hb d_SC_tokenAt_226 rfl (lv_at hl 2 rfl) ?_
                    refine lv_goto (tgt := 232) hx hb d_SC_tokenAt_227 (by decide) ?_
                    have o_r : (tt_ch f n i) = (tt_tok f n i) := by first | contradiction | (simp [tt_tok, tt_b, c_2, c_12, eq_true c_33, c_48, c_90, c_97, c_144, c_156, c_223] <;> (intros; omega))
                    have o_u : (tt_to f n i : Nat) = (i + 1) := by first | contradiction | (simp [tt_to, tt_b, c_2, c_12, eq_true c_33, c_48, c_90, c_97, c_144, c_156, c_223] <;> (intros; omega))
                    have hP9 : va_P D vwCl [(a, .inr (1, [.ref r, .int (nI n)])), (r, .inl (cB, 16384, .inl f)), (q, .inr (4, [.int tk, .int (nI i), .int (nI (i + 1))]))] H := hP.sub [0, 1, 2] rfl
                    have hD9 : va_D A [(a, .inr (1, [.ref r, .int (nI n)])), (r, .inl (cB, 16384, .inl f)), (q, .inr (4, [.int tk, .int (nI i), .int (nI (i + 1))]))] := hD.sub [0, 1, 2] (by decide) rfl
                    have hP9 : va_P D vwCl [(a, .inr (1, [.ref r, .int (nI n)])), (r, .inl (cB, 16384, .inl f)), (q, .inr (4, [.int tk, .int (nI i), .int (nI (tt_to f n i))]))] H := by rw [o_u]; exact hP9
                    have hD9 : va_D A [(a, .inr (1, [.ref r, .int (nI n)])), (r, .inl (cB, 16384, .inl f)), (q, .inr (4, [.int tk, .int (nI i), .int (nI (tt_to f n i))]))] := by rw [o_u]; exact hD9
                    exact W.iret (v := tt_ch f n i) hx hb hr (fun t ht hW => ⟨⟨_, (), rfl, o_r, by rw [ht]; exact hP9, hD9⟩, hS.F ht⟩) hS.2.2 d_SC_tokenAt_232
                · skip
                  refine lv_aload_n hx hb d_SC_tokenAt_159 rfl (lv_at hl 1 rfl) ?_
                  refine lv_iconst (v := 2) hx hb d_SC_tokenAt_160 (by decide) ?_
                  refine lv_aload_n hx hb d_SC_tokenAt_161 rfl (lv_at hl 0 rfl) ?_
                  refine va_get (D := D) (ci := 4) (v := .int (nI i)) (C := R_SC) (T := F_SC) (N := 3) hx hb htT i_SC hown hK hP 2 rfl rfl 1 (by decide) (htT _ k_115) (fun _ h9 => h9) rfl d_SC_tokenAt_162 ?_
                  refine lv_iconst (v := 1) hx hb d_SC_tokenAt_165 (by decide) ?_
                  refine lv_iadd hx hb d_SC_tokenAt_166 ?_
                  refine tt_ti (show (nI i) + 1 = nI (i + 1) from nI_add i 1) ?_
                  refine tt_roI (va_runV (As := [.int 2, .int (nI (i + 1))]) (rest := []) ⟨hx, hb, hml, hown, hts⟩ (c_BY_behindAll2 l D cI cB cL a r f n (i + 1) (by omega) (by omega)) (cwV 2 hts (tt_gV k_218 k_219 k_220 k_2 k_221) rfl rfl rfl hv_BY_behindAll ⟨Nat.le_of_ble_eq_true rfl, Nat.le_of_ble_eq_true rfl⟩) (tt_ropreV (w := [(a, .inr (1, [.ref r, .int (nI n)])), (r, .inl (cB, 16384, .inl f))]) hK hP [0, 1] rfl (va_recv hK hP (ci := 1) (q0 := 0) rfl rfl)) rfl rfl hl.1 rfl (lv_room (Nat.le_of_ble_eq_true rfl)) d_SC_tokenAt_167 ⟨Nat.zero_le _, Nat.zero_le _⟩) hS hP (fun H locs hP hS => ?_)
                  have b_167_0 := tt_swb (fun j => tt_wd (tt_ch f n j)) n (i + 1)
                  refine lv_istore_n (lv' := [(3, .int (nI (tt_sw (fun j => tt_wd (tt_ch f n j)) n (i + 1)))), (0, .ref q), (1, .ref a), (2, .int (tt_ch f n i))]) hx hb d_SC_tokenAt_170 rfl hl (by decide) rfl (fun ls hl => ?_)
                  refine lv_aload_n hx hb d_SC_tokenAt_171 rfl (lv_at hl 1 rfl) ?_
                  refine lv_iload_n hx hb d_SC_tokenAt_172 rfl (lv_at hl 0 rfl) ?_
                  refine lv_aload_n hx hb d_SC_tokenAt_173 rfl (lv_at hl 1 rfl) ?_
                  refine va_get (D := D) (ci := 4) (v := .int (nI i)) (C := R_SC) (T := F_SC) (N := 3) hx hb htT i_SC hown hK hP 2 rfl rfl 1 (by decide) (htT _ k_115) (fun _ h9 => h9) rfl d_SC_tokenAt_174 ?_
                  refine lv_iconst (v := 1) hx hb d_SC_tokenAt_177 (by decide) ?_
                  refine lv_iadd hx hb d_SC_tokenAt_178 ?_
                  refine tt_ti (show (nI i) + 1 = nI (i + 1) from nI_add i 1) ?_
                  refine lv_bipush (v := 31) hx hb d_SC_tokenAt_179 (by decide) ?_
                  refine lv_iadd hx hb d_SC_tokenAt_181 ?_
                  refine tt_ti (show (nI (i + 1)) + 31 = nI (i + 32) from nI_add (i + 1) 31) ?_
                  refine va_mmin hx hb (by rw [hml]; exact hl.1.symm) hown (htT _ k_243) (htT _ k_244) (htT _ k_15) (htT _ k_245) (Nat.le_of_ble_eq_true rfl) (Nat.le_of_ble_eq_true rfl) (Nat.zero_le _) (Nat.zero_le _) d_SC_tokenAt_182 ?_
                  refine tt_ti (show (if nI (i + 32) < nI (tt_sw (fun j => tt_wd (tt_ch f n j)) n (i + 1)) then nI (i + 32) else nI (tt_sw (fun j => tt_wd (tt_ch f n j)) n (i + 1))) = nI (min (tt_sw (fun j => tt_wd (tt_ch f n j)) n (i + 1)) (i + 32)) from tt_min (by omega) (by omega)) ?_
                  refine va_put (D := D) (ci := 4) (v := .int (nI (min (tt_sw (fun j => tt_wd (tt_ch f n j)) n (i + 1)) (i + 32)))) (ty := .int) (C := R_SC) (T := F_SC) (N := 3) hx hb htT i_SC t_SC t_SC_ok n_SC hown hK hP hD hS 2 rfl rfl 2 (by decide) (htT _ k_117) (fun _ h9 => h9) rfl (by decide +kernel) rfl rfl (Nat.le_of_ble_eq_true rfl) d_SC_tokenAt_185 (fun H locs hP hD hS => ?_)
                  have hP : va_P D vwCl [(a, .inr (1, [.ref r, .int (nI n)])), (r, .inl (cB, 16384, .inl f)), (q, .inr (4, [.int tk, .int (nI i), .int (nI (min (tt_sw (fun j => tt_wd (tt_ch f n j)) n (i + 1)) (i + 32)))]))] H := hP
                  have hD : va_D A [(a, .inr (1, [.ref r, .int (nI n)])), (r, .inl (cB, 16384, .inl f)), (q, .inr (4, [.int tk, .int (nI i), .int (nI (min (tt_sw (fun j => tt_wd (tt_ch f n j)) n (i + 1)) (i + 32)))]))] := hD
                  refine lv_aload_n hx hb d_SC_tokenAt_188 rfl (lv_at hl 1 rfl) ?_
                  refine va_get (D := D) (ci := 4) (v := .int (nI (min (tt_sw (fun j => tt_wd (tt_ch f n j)) n (i + 1)) (i + 32)))) (C := R_SC) (T := F_SC) (N := 3) hx hb htT i_SC hown hK hP 2 rfl rfl 2 (by decide) (htT _ k_117) (fun _ h9 => h9) rfl d_SC_tokenAt_189 ?_
                  refine lv_aload_n hx hb d_SC_tokenAt_192 rfl (lv_at hl 1 rfl) ?_
                  refine va_get (D := D) (ci := 4) (v := .int (nI i)) (C := R_SC) (T := F_SC) (N := 3) hx hb htT i_SC hown hK hP 2 rfl rfl 1 (by decide) (htT _ k_115) (fun _ h9 => h9) rfl d_SC_tokenAt_193 ?_
                  refine lv_iconst (v := 1) hx hb d_SC_tokenAt_196 (by decide) ?_
                  refine lv_iadd hx hb d_SC_tokenAt_197 ?_
                  refine tt_ti (show (nI i) + 1 = nI (i + 1) from nI_add i 1) ?_
                  refine lv_icmp_ne (tgt := 206) hx hb d_SC_tokenAt_198 (by decide) (fun c_198 => ?_) (fun c_198 => ?_)
                  · have c_198 : ¬ (min (tt_sw (fun j => tt_wd (tt_ch f n j)) n (i + 1)) (i + 32)) = (i + 1) := fun z9 => c_198 ((nI_eq (a := (min (tt_sw (fun j => tt_wd (tt_ch f n j)) n (i + 1)) (i + 32))) (b := (i + 1)) (by omega) (by omega)).mpr z9)
                    refine lv_bipush (v := 6) hx hb d_SC_tokenAt_206 (by decide) ?_
                    have o_r : (6 : Int32) = (tt_tok f n i) := by first | contradiction | (simp [tt_tok, tt_b, c_2, c_12, eq_true c_33, c_48, c_90, c_97, c_144, eq_true c_156, c_198] <;> (intros; omega))
                    have o_u : (tt_to f n i : Nat) = (min (tt_sw (fun j => tt_wd (tt_ch f n j)) n (i + 1)) (i + 32)) := by first | contradiction | (simp [tt_to, tt_b, c_2, c_12, eq_true c_33, c_48, c_90, c_97, c_144, eq_true c_156, c_198] <;> (intros; omega))
                    have hP9 : va_P D vwCl [(a, .inr (1, [.ref r, .int (nI n)])), (r, .inl (cB, 16384, .inl f)), (q, .inr (4, [.int tk, .int (nI i), .int (nI (min (tt_sw (fun j => tt_wd (tt_ch f n j)) n (i + 1)) (i + 32)))]))] H := hP.sub [0, 1, 2] rfl
                    have hD9 : va_D A [(a, .inr (1, [.ref r, .int (nI n)])), (r, .inl (cB, 16384, .inl f)), (q, .inr (4, [.int tk, .int (nI i), .int (nI (min (tt_sw (fun j => tt_wd (tt_ch f n j)) n (i + 1)) (i + 32)))]))] := hD.sub [0, 1, 2] (by decide) rfl
                    have hP9 : va_P D vwCl [(a, .inr (1, [.ref r, .int (nI n)])), (r, .inl (cB, 16384, .inl f)), (q, .inr (4, [.int tk, .int (nI i), .int (nI (tt_to f n i))]))] H := by rw [o_u]; exact hP9
                    have hD9 : va_D A [(a, .inr (1, [.ref r, .int (nI n)])), (r, .inl (cB, 16384, .inl f)), (q, .inr (4, [.int tk, .int (nI i), .int (nI (tt_to f n i))]))] := by rw [o_u]; exact hD9
                    exact W.iret (v := 6) hx hb hr (fun t ht hW => ⟨⟨_, (), rfl, o_r, by rw [ht]; exact hP9, hD9⟩, hS.F ht⟩) hS.2.2 d_SC_tokenAt_208
                  · have c_198 : (min (tt_sw (fun j => tt_wd (tt_ch f n j)) n (i + 1)) (i + 32)) = (i + 1) := (nI_eq (a := (min (tt_sw (fun j => tt_wd (tt_ch f n j)) n (i + 1)) (i + 32))) (b := (i + 1)) (by omega) (by omega)).mp c_198
                    refine lv_bipush (v := 7) hx hb d_SC_tokenAt_201 (by decide) ?_
                    refine lv_goto (tgt := 208) hx hb d_SC_tokenAt_203 (by decide) ?_
                    have o_r : (7 : Int32) = (tt_tok f n i) := by first | contradiction | (simp [tt_tok, tt_b, c_2, c_12, eq_true c_33, c_48, c_90, c_97, c_144, eq_true c_156, eq_true c_198] <;> (intros; omega))
                    have o_u : (tt_to f n i : Nat) = (min (tt_sw (fun j => tt_wd (tt_ch f n j)) n (i + 1)) (i + 32)) := by first | contradiction | (simp [tt_to, tt_b, c_2, c_12, eq_true c_33, c_48, c_90, c_97, c_144, eq_true c_156, eq_true c_198] <;> (intros; omega))
                    have hP9 : va_P D vwCl [(a, .inr (1, [.ref r, .int (nI n)])), (r, .inl (cB, 16384, .inl f)), (q, .inr (4, [.int tk, .int (nI i), .int (nI (min (tt_sw (fun j => tt_wd (tt_ch f n j)) n (i + 1)) (i + 32)))]))] H := hP.sub [0, 1, 2] rfl
                    have hD9 : va_D A [(a, .inr (1, [.ref r, .int (nI n)])), (r, .inl (cB, 16384, .inl f)), (q, .inr (4, [.int tk, .int (nI i), .int (nI (min (tt_sw (fun j => tt_wd (tt_ch f n j)) n (i + 1)) (i + 32)))]))] := hD.sub [0, 1, 2] (by decide) rfl
                    have hP9 : va_P D vwCl [(a, .inr (1, [.ref r, .int (nI n)])), (r, .inl (cB, 16384, .inl f)), (q, .inr (4, [.int tk, .int (nI i), .int (nI (tt_to f n i))]))] H := by rw [o_u]; exact hP9
                    have hD9 : va_D A [(a, .inr (1, [.ref r, .int (nI n)])), (r, .inl (cB, 16384, .inl f)), (q, .inr (4, [.int tk, .int (nI i), .int (nI (tt_to f n i))]))] := by rw [o_u]; exact hD9
                    exact W.iret (v := 7) hx hb hr (fun t ht hW => ⟨⟨_, (), rfl, o_r, by rw [ht]; exact hP9, hD9⟩, hS.F ht⟩) hS.2.2 d_SC_tokenAt_208
              · skip
                refine lv_aload_n hx hb d_SC_tokenAt_147 rfl (lv_at hl 0 rfl) ?_
                refine lv_aload_n hx hb d_SC_tokenAt_148 rfl (lv_at hl 1 rfl) ?_
                refine tt_muI (wr := []) (va_runV (As := [.ref a]) (rest := []) ⟨hx, hb, hml, hown, hts⟩ (c_SC_stringOrNone l D cI cB cL a r f n q tk i (by omega) (by omega) _) (cwV 1 hts (tt_gV k_233 k_235 ks_1 k_5 k_236) rfl rfl rfl hv_SC_stringOrNone ⟨Nat.le_of_ble_eq_true rfl, Nat.le_of_ble_eq_true rfl⟩) (tt_mupreV (w := [(a, .inr (1, [.ref r, .int (nI n)])), (r, .inl (cB, 16384, .inl f)), (q, .inr (4, [.int tk, .int (nI i), .int (nI i)]))]) hK hP hD [0, 1, 2] rfl (by decide) rfl (va_recv hK hP (ci := 4) (q0 := 2) rfl rfl)) rfl rfl hl.1 rfl (lv_room (Nat.le_of_ble_eq_true rfl)) d_SC_tokenAt_149 ⟨Nat.zero_le _, Nat.zero_le _⟩) hS hP hD hA [0, 1, 2] [] rfl rfl (by decide) (by decide) (fun H locs hP hD hS => ?_)
                have hP : va_P D vwCl [(a, .inr (1, [.ref r, .int (nI n)])), (r, .inl (cB, 16384, .inl f)), (q, .inr (4, [.int tk, .int (nI i), .int (nI (if tt_str f n (i + 1) = 0 then i else tt_str f n (i + 1)))]))] H := hP
                have hD : va_D A [(a, .inr (1, [.ref r, .int (nI n)])), (r, .inl (cB, 16384, .inl f)), (q, .inr (4, [.int tk, .int (nI i), .int (nI (if tt_str f n (i + 1) = 0 then i else tt_str f n (i + 1)))]))] := hD
                have o_r : (if tt_str f n (i + 1) = 0 then 7 else 1) = (tt_tok f n i) := by first | contradiction | (simp [tt_tok, tt_b, c_2, c_12, eq_true c_33, c_48, c_90, c_97, eq_true c_144] <;> (intros; omega))
                have o_u : (tt_to f n i : Nat) = (if tt_str f n (i + 1) = 0 then i else tt_str f n (i + 1)) := by first | contradiction | (simp [tt_to, tt_b, c_2, c_12, eq_true c_33, c_48, c_90, c_97, eq_true c_144] <;> (intros; omega))
                have hP9 : va_P D vwCl [(a, .inr (1, [.ref r, .int (nI n)])), (r, .inl (cB, 16384, .inl f)), (q, .inr (4, [.int tk, .int (nI i), .int (nI (if tt_str f n (i + 1) = 0 then i else tt_str f n (i + 1)))]))] H := hP.sub [0, 1, 2] rfl
                have hD9 : va_D A [(a, .inr (1, [.ref r, .int (nI n)])), (r, .inl (cB, 16384, .inl f)), (q, .inr (4, [.int tk, .int (nI i), .int (nI (if tt_str f n (i + 1) = 0 then i else tt_str f n (i + 1)))]))] := hD.sub [0, 1, 2] (by decide) rfl
                have hP9 : va_P D vwCl [(a, .inr (1, [.ref r, .int (nI n)])), (r, .inl (cB, 16384, .inl f)), (q, .inr (4, [.int tk, .int (nI i), .int (nI (tt_to f n i))]))] H := by rw [o_u]; exact hP9
                have hD9 : va_D A [(a, .inr (1, [.ref r, .int (nI n)])), (r, .inl (cB, 16384, .inl f)), (q, .inr (4, [.int tk, .int (nI i), .int (nI (tt_to f n i))]))] := by rw [o_u]; exact hD9
                exact W.iret (v := if tt_str f n (i + 1) = 0 then 7 else 1) hx hb hr (fun t ht hW => ⟨⟨_, (), rfl, o_r, by rw [ht]; exact hP9, hD9⟩, hS.F ht⟩) hS.2.2 d_SC_tokenAt_152
            · have c_97 := tt_bn0.mp c_97
              refine lv_aload_n hx hb d_SC_tokenAt_100 rfl (lv_at hl 0 rfl) ?_
              refine lv_aload_n hx hb d_SC_tokenAt_101 rfl (lv_at hl 1 rfl) ?_
              refine lv_iconst (v := 0) hx hb d_SC_tokenAt_102 (by decide) ?_
              refine lv_aload_n hx hb d_SC_tokenAt_103 rfl (lv_at hl 0 rfl) ?_
              refine va_get (D := D) (ci := 4) (v := .int (nI i)) (C := R_SC) (T := F_SC) (N := 3) hx hb htT i_SC hown hK hP 2 rfl rfl 1 (by decide) (htT _ k_115) (fun _ h9 => h9) rfl d_SC_tokenAt_104 ?_
              refine lv_iconst (v := 1) hx hb d_SC_tokenAt_107 (by decide) ?_
              refine lv_iadd hx hb d_SC_tokenAt_108 ?_
              refine tt_ti (show (nI i) + 1 = nI (i + 1) from nI_add i 1) ?_
              refine tt_roI (va_runV (As := [.int 0, .int (nI (i + 1))]) (rest := [.ref q]) ⟨hx, hb, hml, hown, hts⟩ (c_BY_behindAll0 l D cI cB cL a r f n (i + 1) (by omega) (by omega)) (cwV 2 hts (tt_gV k_218 k_219 k_220 k_2 k_221) rfl rfl rfl hv_BY_behindAll ⟨Nat.le_of_ble_eq_true rfl, Nat.le_of_ble_eq_true rfl⟩) (tt_ropreV (w := [(a, .inr (1, [.ref r, .int (nI n)])), (r, .inl (cB, 16384, .inl f))]) hK hP [0, 1] rfl (va_recv hK hP (ci := 1) (q0 := 0) rfl rfl)) rfl rfl hl.1 rfl (lv_room (Nat.le_of_ble_eq_true rfl)) d_SC_tokenAt_109 ⟨Nat.zero_le _, Nat.zero_le _⟩) hS hP (fun H locs hP hS => ?_)
              have b_109_0 := tt_swb (fun j => tt_dig (tt_ch f n j)) n (i + 1)
              refine va_put (D := D) (ci := 4) (v := .int (nI (tt_sw (fun j => tt_dig (tt_ch f n j)) n (i + 1)))) (ty := .int) (C := R_SC) (T := F_SC) (N := 3) hx hb htT i_SC t_SC t_SC_ok n_SC hown hK hP hD hS 2 rfl rfl 2 (by decide) (htT _ k_117) (fun _ h9 => h9) rfl (by decide +kernel) rfl rfl (Nat.le_of_ble_eq_true rfl) d_SC_tokenAt_112 (fun H locs hP hD hS => ?_)
              have hP : va_P D vwCl [(a, .inr (1, [.ref r, .int (nI n)])), (r, .inl (cB, 16384, .inl f)), (q, .inr (4, [.int tk, .int (nI i), .int (nI (tt_sw (fun j => tt_dig (tt_ch f n j)) n (i + 1)))]))] H := hP
              have hD : va_D A [(a, .inr (1, [.ref r, .int (nI n)])), (r, .inl (cB, 16384, .inl f)), (q, .inr (4, [.int tk, .int (nI i), .int (nI (tt_sw (fun j => tt_dig (tt_ch f n j)) n (i + 1)))]))] := hD
              refine lv_iload_n hx hb d_SC_tokenAt_115 rfl (lv_at hl 2 rfl) ?_
              refine lv_bipush (v := 45) hx hb d_SC_tokenAt_116 (by decide) ?_
              refine lv_icmp_ne (tgt := 139) hx hb d_SC_tokenAt_118 (by decide) (fun c_118 => ?_) (fun c_118 => ?_)
              · skip
                refine lv_iconst (v := 0) hx hb d_SC_tokenAt_139 (by decide) ?_
                have o_r : (0 : Int32) = (tt_tok f n i) := by first | contradiction | (simp [tt_tok, tt_b, c_2, c_12, eq_true c_33, c_48, c_90, c_97, c_118] <;> (intros; omega))
                have o_u : (tt_to f n i : Nat) = (tt_sw (fun j => tt_dig (tt_ch f n j)) n (i + 1)) := by first | contradiction | (simp [tt_to, tt_b, c_2, c_12, eq_true c_33, c_48, c_90, c_97, c_118] <;> (intros; omega))
                have hP9 : va_P D vwCl [(a, .inr (1, [.ref r, .int (nI n)])), (r, .inl (cB, 16384, .inl f)), (q, .inr (4, [.int tk, .int (nI i), .int (nI (tt_sw (fun j => tt_dig (tt_ch f n j)) n (i + 1)))]))] H := hP.sub [0, 1, 2] rfl
                have hD9 : va_D A [(a, .inr (1, [.ref r, .int (nI n)])), (r, .inl (cB, 16384, .inl f)), (q, .inr (4, [.int tk, .int (nI i), .int (nI (tt_sw (fun j => tt_dig (tt_ch f n j)) n (i + 1)))]))] := hD.sub [0, 1, 2] (by decide) rfl
                have hP9 : va_P D vwCl [(a, .inr (1, [.ref r, .int (nI n)])), (r, .inl (cB, 16384, .inl f)), (q, .inr (4, [.int tk, .int (nI i), .int (nI (tt_to f n i))]))] H := by rw [o_u]; exact hP9
                have hD9 : va_D A [(a, .inr (1, [.ref r, .int (nI n)])), (r, .inl (cB, 16384, .inl f)), (q, .inr (4, [.int tk, .int (nI i), .int (nI (tt_to f n i))]))] := by rw [o_u]; exact hD9
                exact W.iret (v := 0) hx hb hr (fun t ht hW => ⟨⟨_, (), rfl, o_r, by rw [ht]; exact hP9, hD9⟩, hS.F ht⟩) hS.2.2 d_SC_tokenAt_140
              · skip
                refine lv_aload_n hx hb d_SC_tokenAt_121 rfl (lv_at hl 0 rfl) ?_
                refine va_get (D := D) (ci := 4) (v := .int (nI (tt_sw (fun j => tt_dig (tt_ch f n j)) n (i + 1)))) (C := R_SC) (T := F_SC) (N := 3) hx hb htT i_SC hown hK hP 2 rfl rfl 2 (by decide) (htT _ k_117) (fun _ h9 => h9) rfl d_SC_tokenAt_122 ?_
                refine lv_aload_n hx hb d_SC_tokenAt_125 rfl (lv_at hl 0 rfl) ?_
                refine va_get (D := D) (ci := 4) (v := .int (nI i)) (C := R_SC) (T := F_SC) (N := 3) hx hb htT i_SC hown hK hP 2 rfl rfl 1 (by decide) (htT _ k_115) (fun _ h9 => h9) rfl d_SC_tokenAt_126 ?_
                refine lv_iconst (v := 1) hx hb d_SC_tokenAt_129 (by decide) ?_
                refine lv_iadd hx hb d_SC_tokenAt_130 ?_
                refine tt_ti (show (nI i) + 1 = nI (i + 1) from nI_add i 1) ?_
                refine lv_icmp_ne (tgt := 139) hx hb d_SC_tokenAt_131 (by decide) (fun c_131 => ?_) (fun c_131 => ?_)
                · have c_131 : ¬ (tt_sw (fun j => tt_dig (tt_ch f n j)) n (i + 1)) = (i + 1) := fun z9 => c_131 ((nI_eq (a := (tt_sw (fun j => tt_dig (tt_ch f n j)) n (i + 1))) (b := (i + 1)) (by omega) (by omega)).mpr z9)
                  refine lv_iconst (v := 0) hx hb d_SC_tokenAt_139 (by decide) ?_
                  have o_r : (0 : Int32) = (tt_tok f n i) := by first | contradiction | (simp [tt_tok, tt_b, c_2, c_12, eq_true c_33, c_48, c_90, c_97, eq_true c_118, c_131] <;> (intros; omega))
                  have o_u : (tt_to f n i : Nat) = (tt_sw (fun j => tt_dig (tt_ch f n j)) n (i + 1)) := by first | contradiction | (simp [tt_to, tt_b, c_2, c_12, eq_true c_33, c_48, c_90, c_97, eq_true c_118, c_131] <;> (intros; omega))
                  have hP9 : va_P D vwCl [(a, .inr (1, [.ref r, .int (nI n)])), (r, .inl (cB, 16384, .inl f)), (q, .inr (4, [.int tk, .int (nI i), .int (nI (tt_sw (fun j => tt_dig (tt_ch f n j)) n (i + 1)))]))] H := hP.sub [0, 1, 2] rfl
                  have hD9 : va_D A [(a, .inr (1, [.ref r, .int (nI n)])), (r, .inl (cB, 16384, .inl f)), (q, .inr (4, [.int tk, .int (nI i), .int (nI (tt_sw (fun j => tt_dig (tt_ch f n j)) n (i + 1)))]))] := hD.sub [0, 1, 2] (by decide) rfl
                  have hP9 : va_P D vwCl [(a, .inr (1, [.ref r, .int (nI n)])), (r, .inl (cB, 16384, .inl f)), (q, .inr (4, [.int tk, .int (nI i), .int (nI (tt_to f n i))]))] H := by rw [o_u]; exact hP9
                  have hD9 : va_D A [(a, .inr (1, [.ref r, .int (nI n)])), (r, .inl (cB, 16384, .inl f)), (q, .inr (4, [.int tk, .int (nI i), .int (nI (tt_to f n i))]))] := by rw [o_u]; exact hD9
                  exact W.iret (v := 0) hx hb hr (fun t ht hW => ⟨⟨_, (), rfl, o_r, by rw [ht]; exact hP9, hD9⟩, hS.F ht⟩) hS.2.2 d_SC_tokenAt_140
                · have c_131 : (tt_sw (fun j => tt_dig (tt_ch f n j)) n (i + 1)) = (i + 1) := (nI_eq (a := (tt_sw (fun j => tt_dig (tt_ch f n j)) n (i + 1))) (b := (i + 1)) (by omega) (by omega)).mp c_131
                  refine lv_bipush (v := 7) hx hb d_SC_tokenAt_134 (by decide) ?_
                  refine lv_goto (tgt := 140) hx hb d_SC_tokenAt_136 (by decide) ?_
                  have o_r : (7 : Int32) = (tt_tok f n i) := by first | contradiction | (simp [tt_tok, tt_b, c_2, c_12, eq_true c_33, c_48, c_90, c_97, eq_true c_118, eq_true c_131] <;> (intros; omega))
                  have o_u : (tt_to f n i : Nat) = (tt_sw (fun j => tt_dig (tt_ch f n j)) n (i + 1)) := by first | contradiction | (simp [tt_to, tt_b, c_2, c_12, eq_true c_33, c_48, c_90, c_97, eq_true c_118, eq_true c_131] <;> (intros; omega))
                  have hP9 : va_P D vwCl [(a, .inr (1, [.ref r, .int (nI n)])), (r, .inl (cB, 16384, .inl f)), (q, .inr (4, [.int tk, .int (nI i), .int (nI (tt_sw (fun j => tt_dig (tt_ch f n j)) n (i + 1)))]))] H := hP.sub [0, 1, 2] rfl
                  have hD9 : va_D A [(a, .inr (1, [.ref r, .int (nI n)])), (r, .inl (cB, 16384, .inl f)), (q, .inr (4, [.int tk, .int (nI i), .int (nI (tt_sw (fun j => tt_dig (tt_ch f n j)) n (i + 1)))]))] := hD.sub [0, 1, 2] (by decide) rfl
                  have hP9 : va_P D vwCl [(a, .inr (1, [.ref r, .int (nI n)])), (r, .inl (cB, 16384, .inl f)), (q, .inr (4, [.int tk, .int (nI i), .int (nI (tt_to f n i))]))] H := by rw [o_u]; exact hP9
                  have hD9 : va_D A [(a, .inr (1, [.ref r, .int (nI n)])), (r, .inl (cB, 16384, .inl f)), (q, .inr (4, [.int tk, .int (nI i), .int (nI (tt_to f n i))]))] := by rw [o_u]; exact hD9
                  exact W.iret (v := 7) hx hb hr (fun t ht hW => ⟨⟨_, (), rfl, o_r, by rw [ht]; exact hP9, hD9⟩, hS.F ht⟩) hS.2.2 d_SC_tokenAt_140
        · skip
          refine lv_aload_n hx hb d_SC_tokenAt_51 rfl (lv_at hl 0 rfl) ?_
          refine lv_aload_n hx hb d_SC_tokenAt_52 rfl (lv_at hl 1 rfl) ?_
          refine lv_iconst (v := 1) hx hb d_SC_tokenAt_53 (by decide) ?_
          refine lv_aload_n hx hb d_SC_tokenAt_54 rfl (lv_at hl 0 rfl) ?_
          refine va_get (D := D) (ci := 4) (v := .int (nI i)) (C := R_SC) (T := F_SC) (N := 3) hx hb htT i_SC hown hK hP 2 rfl rfl 1 (by decide) (htT _ k_115) (fun _ h9 => h9) rfl d_SC_tokenAt_55 ?_
          refine lv_iconst (v := 2) hx hb d_SC_tokenAt_58 (by decide) ?_
          refine lv_iadd hx hb d_SC_tokenAt_59 ?_
          refine tt_ti (show (nI i) + 2 = nI (i + 2) from nI_add i 2) ?_
          refine tt_roI (va_runV (As := [.int 1, .int (nI (i + 2))]) (rest := [.ref q]) ⟨hx, hb, hml, hown, hts⟩ (c_BY_behindAll1 l D cI cB cL a r f n (i + 2) (by omega) (by omega)) (cwV 2 hts (tt_gV k_218 k_219 k_220 k_2 k_221) rfl rfl rfl hv_BY_behindAll ⟨Nat.le_of_ble_eq_true rfl, Nat.le_of_ble_eq_true rfl⟩) (tt_ropreV (w := [(a, .inr (1, [.ref r, .int (nI n)])), (r, .inl (cB, 16384, .inl f))]) hK hP [0, 1] rfl (va_recv hK hP (ci := 1) (q0 := 0) rfl rfl)) rfl rfl hl.1 rfl (lv_room (Nat.le_of_ble_eq_true rfl)) d_SC_tokenAt_60 ⟨Nat.zero_le _, Nat.zero_le _⟩) hS hP (fun H locs hP hS => ?_)
          have b_60_0 := tt_swb (fun j => tt_hx (tt_ch f n j)) n (i + 2)
          refine va_put (D := D) (ci := 4) (v := .int (nI (tt_sw (fun j => tt_hx (tt_ch f n j)) n (i + 2)))) (ty := .int) (C := R_SC) (T := F_SC) (N := 3) hx hb htT i_SC t_SC t_SC_ok n_SC hown hK hP hD hS 2 rfl rfl 2 (by decide) (htT _ k_117) (fun _ h9 => h9) rfl (by decide +kernel) rfl rfl (Nat.le_of_ble_eq_true rfl) d_SC_tokenAt_63 (fun H locs hP hD hS => ?_)
          have hP : va_P D vwCl [(a, .inr (1, [.ref r, .int (nI n)])), (r, .inl (cB, 16384, .inl f)), (q, .inr (4, [.int tk, .int (nI i), .int (nI (tt_sw (fun j => tt_hx (tt_ch f n j)) n (i + 2)))]))] H := hP
          have hD : va_D A [(a, .inr (1, [.ref r, .int (nI n)])), (r, .inl (cB, 16384, .inl f)), (q, .inr (4, [.int tk, .int (nI i), .int (nI (tt_sw (fun j => tt_hx (tt_ch f n j)) n (i + 2)))]))] := hD
          refine lv_aload_n hx hb d_SC_tokenAt_66 rfl (lv_at hl 0 rfl) ?_
          refine va_get (D := D) (ci := 4) (v := .int (nI (tt_sw (fun j => tt_hx (tt_ch f n j)) n (i + 2)))) (C := R_SC) (T := F_SC) (N := 3) hx hb htT i_SC hown hK hP 2 rfl rfl 2 (by decide) (htT _ k_117) (fun _ h9 => h9) rfl d_SC_tokenAt_67 ?_
          refine lv_aload_n hx hb d_SC_tokenAt_70 rfl (lv_at hl 0 rfl) ?_
          refine va_get (D := D) (ci := 4) (v := .int (nI i)) (C := R_SC) (T := F_SC) (N := 3) hx hb htT i_SC hown hK hP 2 rfl rfl 1 (by decide) (htT _ k_115) (fun _ h9 => h9) rfl d_SC_tokenAt_71 ?_
          refine lv_isub hx hb d_SC_tokenAt_74 ?_
          refine tt_ti (show (nI (tt_sw (fun j => tt_hx (tt_ch f n j)) n (i + 2))) - (nI i) = nI ((tt_sw (fun j => tt_hx (tt_ch f n j)) n (i + 2)) - i) from pk_sub (a := (tt_sw (fun j => tt_hx (tt_ch f n j)) n (i + 2))) (b := i) (by omega)) ?_
          refine lv_iconst (v := 2) hx hb d_SC_tokenAt_75 (by decide) ?_
          refine lv_irem hx hb d_SC_tokenAt_76 (by decide) ?_
          refine tt_ti (show (nI ((tt_sw (fun j => tt_hx (tt_ch f n j)) n (i + 2)) - i)) - (nI ((tt_sw (fun j => tt_hx (tt_ch f n j)) n (i + 2)) - i)) / 2 * 2 = nI (((tt_sw (fun j => tt_hx (tt_ch f n j)) n (i + 2)) - i) % 2) from pk_rem (a := ((tt_sw (fun j => tt_hx (tt_ch f n j)) n (i + 2)) - i)) (d := 2) (by omega) (by omega) (by omega)) ?_
          refine lv_if_ne (tgt := 84) hx hb d_SC_tokenAt_77 (by decide) (fun c_77 => ?_) (fun c_77 => ?_)
          · have c_77 : ¬ (((tt_sw (fun j => tt_hx (tt_ch f n j)) n (i + 2)) - i) % 2) = 0 := fun z9 => c_77 ((nI_eq (a := (((tt_sw (fun j => tt_hx (tt_ch f n j)) n (i + 2)) - i) % 2)) (b := 0) (by omega) (by omega)).mpr z9)
            refine lv_bipush (v := 7) hx hb d_SC_tokenAt_84 (by decide) ?_
            have o_r : (7 : Int32) = (tt_tok f n i) := by first | contradiction | (simp [tt_tok, tt_b, c_2, c_12, eq_true c_33, eq_true c_48, c_77] <;> (intros; omega))
            have o_u : (tt_to f n i : Nat) = (tt_sw (fun j => tt_hx (tt_ch f n j)) n (i + 2)) := by first | contradiction | (simp [tt_to, tt_b, c_2, c_12, eq_true c_33, eq_true c_48, c_77] <;> (intros; omega))
            have hP9 : va_P D vwCl [(a, .inr (1, [.ref r, .int (nI n)])), (r, .inl (cB, 16384, .inl f)), (q, .inr (4, [.int tk, .int (nI i), .int (nI (tt_sw (fun j => tt_hx (tt_ch f n j)) n (i + 2)))]))] H := hP.sub [0, 1, 2] rfl
            have hD9 : va_D A [(a, .inr (1, [.ref r, .int (nI n)])), (r, .inl (cB, 16384, .inl f)), (q, .inr (4, [.int tk, .int (nI i), .int (nI (tt_sw (fun j => tt_hx (tt_ch f n j)) n (i + 2)))]))] := hD.sub [0, 1, 2] (by decide) rfl
            have hP9 : va_P D vwCl [(a, .inr (1, [.ref r, .int (nI n)])), (r, .inl (cB, 16384, .inl f)), (q, .inr (4, [.int tk, .int (nI i), .int (nI (tt_to f n i))]))] H := by rw [o_u]; exact hP9
            have hD9 : va_D A [(a, .inr (1, [.ref r, .int (nI n)])), (r, .inl (cB, 16384, .inl f)), (q, .inr (4, [.int tk, .int (nI i), .int (nI (tt_to f n i))]))] := by rw [o_u]; exact hD9
            exact W.iret (v := 7) hx hb hr (fun t ht hW => ⟨⟨_, (), rfl, o_r, by rw [ht]; exact hP9, hD9⟩, hS.F ht⟩) hS.2.2 d_SC_tokenAt_86
          · have c_77 : (((tt_sw (fun j => tt_hx (tt_ch f n j)) n (i + 2)) - i) % 2) = 0 := (nI_eq (a := (((tt_sw (fun j => tt_hx (tt_ch f n j)) n (i + 2)) - i) % 2)) (b := 0) (by omega) (by omega)).mp c_77
            refine lv_iconst (v := 2) hx hb d_SC_tokenAt_80 (by decide) ?_
            refine lv_goto (tgt := 86) hx hb d_SC_tokenAt_81 (by decide) ?_
            have o_r : (2 : Int32) = (tt_tok f n i) := by first | contradiction | (simp [tt_tok, tt_b, c_2, c_12, eq_true c_33, eq_true c_48, eq_true c_77] <;> (intros; omega))
            have o_u : (tt_to f n i : Nat) = (tt_sw (fun j => tt_hx (tt_ch f n j)) n (i + 2)) := by first | contradiction | (simp [tt_to, tt_b, c_2, c_12, eq_true c_33, eq_true c_48, eq_true c_77] <;> (intros; omega))
            have hP9 : va_P D vwCl [(a, .inr (1, [.ref r, .int (nI n)])), (r, .inl (cB, 16384, .inl f)), (q, .inr (4, [.int tk, .int (nI i), .int (nI (tt_sw (fun j => tt_hx (tt_ch f n j)) n (i + 2)))]))] H := hP.sub [0, 1, 2] rfl
            have hD9 : va_D A [(a, .inr (1, [.ref r, .int (nI n)])), (r, .inl (cB, 16384, .inl f)), (q, .inr (4, [.int tk, .int (nI i), .int (nI (tt_sw (fun j => tt_hx (tt_ch f n j)) n (i + 2)))]))] := hD.sub [0, 1, 2] (by decide) rfl
            have hP9 : va_P D vwCl [(a, .inr (1, [.ref r, .int (nI n)])), (r, .inl (cB, 16384, .inl f)), (q, .inr (4, [.int tk, .int (nI i), .int (nI (tt_to f n i))]))] H := by rw [o_u]; exact hP9
            have hD9 : va_D A [(a, .inr (1, [.ref r, .int (nI n)])), (r, .inl (cB, 16384, .inl f)), (q, .inr (4, [.int tk, .int (nI i), .int (nI (tt_to f n i))]))] := by rw [o_u]; exact hD9
            exact W.iret (v := 2) hx hb hr (fun t ht hW => ⟨⟨_, (), rfl, o_r, by rw [ht]; exact hP9, hD9⟩, hS.F ht⟩) hS.2.2 d_SC_tokenAt_86
    · have c_12 := tt_bn0.mp c_12
      refine lv_aload_n hx hb d_SC_tokenAt_15 rfl (lv_at hl 0 rfl) ?_
      refine lv_aload_n hx hb d_SC_tokenAt_16 rfl (lv_at hl 1 rfl) ?_
      refine lv_iconst (v := 2) hx hb d_SC_tokenAt_17 (by decide) ?_
      refine lv_aload_n hx hb d_SC_tokenAt_18 rfl (lv_at hl 0 rfl) ?_
      refine va_get (D := D) (ci := 4) (v := .int (nI i)) (C := R_SC) (T := F_SC) (N := 3) hx hb htT i_SC hown hK hP 2 rfl rfl 1 (by decide) (htT _ k_115) (fun _ h9 => h9) rfl d_SC_tokenAt_19 ?_
      refine tt_roI (va_runV (As := [.int 2, .int (nI i)]) (rest := [.ref q]) ⟨hx, hb, hml, hown, hts⟩ (c_BY_behindAll2 l D cI cB cL a r f n i (by omega) (by omega)) (cwV 2 hts (tt_gV k_218 k_219 k_220 k_2 k_221) rfl rfl rfl hv_BY_behindAll ⟨Nat.le_of_ble_eq_true rfl, Nat.le_of_ble_eq_true rfl⟩) (tt_ropreV (w := [(a, .inr (1, [.ref r, .int (nI n)])), (r, .inl (cB, 16384, .inl f))]) hK hP [0, 1] rfl (va_recv hK hP (ci := 1) (q0 := 0) rfl rfl)) rfl rfl hl.1 rfl (lv_room (Nat.le_of_ble_eq_true rfl)) d_SC_tokenAt_22 ⟨Nat.zero_le _, Nat.zero_le _⟩) hS hP (fun H locs hP hS => ?_)
      have b_22_0 := tt_swb (fun j => tt_wd (tt_ch f n j)) n i
      refine va_put (D := D) (ci := 4) (v := .int (nI (tt_sw (fun j => tt_wd (tt_ch f n j)) n i))) (ty := .int) (C := R_SC) (T := F_SC) (N := 3) hx hb htT i_SC t_SC t_SC_ok n_SC hown hK hP hD hS 2 rfl rfl 2 (by decide) (htT _ k_117) (fun _ h9 => h9) rfl (by decide +kernel) rfl rfl (Nat.le_of_ble_eq_true rfl) d_SC_tokenAt_25 (fun H locs hP hD hS => ?_)
      have hP : va_P D vwCl [(a, .inr (1, [.ref r, .int (nI n)])), (r, .inl (cB, 16384, .inl f)), (q, .inr (4, [.int tk, .int (nI i), .int (nI (tt_sw (fun j => tt_wd (tt_ch f n j)) n i))]))] H := hP
      have hD : va_D A [(a, .inr (1, [.ref r, .int (nI n)])), (r, .inl (cB, 16384, .inl f)), (q, .inr (4, [.int tk, .int (nI i), .int (nI (tt_sw (fun j => tt_wd (tt_ch f n j)) n i))]))] := hD
      refine lv_iconst (v := 5) hx hb d_SC_tokenAt_28 (by decide) ?_
      have o_r : (5 : Int32) = (tt_tok f n i) := by first | contradiction | (simp [tt_tok, tt_b, c_2, c_12] <;> (intros; omega))
      have o_u : (tt_to f n i : Nat) = (tt_sw (fun j => tt_wd (tt_ch f n j)) n i) := by first | contradiction | (simp [tt_to, tt_b, c_2, c_12] <;> (intros; omega))
      have hP9 : va_P D vwCl [(a, .inr (1, [.ref r, .int (nI n)])), (r, .inl (cB, 16384, .inl f)), (q, .inr (4, [.int tk, .int (nI i), .int (nI (tt_sw (fun j => tt_wd (tt_ch f n j)) n i))]))] H := hP.sub [0, 1, 2] rfl
      have hD9 : va_D A [(a, .inr (1, [.ref r, .int (nI n)])), (r, .inl (cB, 16384, .inl f)), (q, .inr (4, [.int tk, .int (nI i), .int (nI (tt_sw (fun j => tt_wd (tt_ch f n j)) n i))]))] := hD.sub [0, 1, 2] (by decide) rfl
      have hP9 : va_P D vwCl [(a, .inr (1, [.ref r, .int (nI n)])), (r, .inl (cB, 16384, .inl f)), (q, .inr (4, [.int tk, .int (nI i), .int (nI (tt_to f n i))]))] H := by rw [o_u]; exact hP9
      have hD9 : va_D A [(a, .inr (1, [.ref r, .int (nI n)])), (r, .inl (cB, 16384, .inl f)), (q, .inr (4, [.int tk, .int (nI i), .int (nI (tt_to f n i))]))] := by rw [o_u]; exact hD9
      exact W.iret (v := 5) hx hb hr (fun t ht hW => ⟨⟨_, (), rfl, o_r, by rw [ht]; exact hP9, hD9⟩, hS.F ht⟩) hS.2.2 d_SC_tokenAt_29
  · skip
    refine lv_bipush (v := 8) hx hb d_SC_tokenAt_5 (by decide) ?_
    have o_r : (8 : Int32) = (tt_tok f n i) := by first | contradiction | (simp [tt_tok, tt_b, eq_true c_2] <;> (intros; omega))
    have o_u : (tt_to f n i : Nat) = i := by first | contradiction | (simp [tt_to, tt_b, eq_true c_2] <;> (intros; omega))
    have hP9 : va_P D vwCl [(a, .inr (1, [.ref r, .int (nI n)])), (r, .inl (cB, 16384, .inl f)), (q, .inr (4, [.int tk, .int (nI i), .int (nI i)]))] s.heap := hP.sub [0, 1, 2] rfl
    have hD9 : va_D A [(a, .inr (1, [.ref r, .int (nI n)])), (r, .inl (cB, 16384, .inl f)), (q, .inr (4, [.int tk, .int (nI i), .int (nI i)]))] := hD.sub [0, 1, 2] (by decide) rfl
    have hP9 : va_P D vwCl [(a, .inr (1, [.ref r, .int (nI n)])), (r, .inl (cB, 16384, .inl f)), (q, .inr (4, [.int tk, .int (nI i), .int (nI (tt_to f n i))]))] s.heap := by rw [o_u]; exact hP9
    have hD9 : va_D A [(a, .inr (1, [.ref r, .int (nI n)])), (r, .inl (cB, 16384, .inl f)), (q, .inr (4, [.int tk, .int (nI i), .int (nI (tt_to f n i))]))] := by rw [o_u]; exact hD9
    exact W.iret (v := 8) hx hb hr (fun t ht hW => ⟨⟨_, (), rfl, o_r, by rw [ht]; exact hP9, hD9⟩, hS.F ht⟩) hS.2.2 d_SC_tokenAt_7
abbrev rm_SC_step : Room := { frames := 4, cells := 0, slots := 0, locals := 87 }
abbrev q_SC_step (D : va_G) (cI cB cL : ClassId) (a r : Nat) (f : Nat → Int32) (n : Nat) (q : Nat) (tk : Int32) (i0 i : Nat) (A : Nat → Prop) : Array Value → State → Outcome → State → Prop := va_Qv (fun _ => True) (fun (_ : Unit) t => va_P D vwCl [(a, .inr (1, [.ref r, .int (nI n)])), (r, .inl (cB, 16384, .inl f)), (q, .inr (4, [.int (tt_tok f n (tt_bl f n false i)), .int (nI (tt_bl f n false i)), .int (nI (tt_to f n (tt_bl f n false i)))]))] t.heap ∧ va_D A [(a, .inr (1, [.ref r, .int (nI n)])), (r, .inl (cB, 16384, .inl f)), (q, .inr (4, [.int (tt_tok f n (tt_bl f n false i)), .int (nI (tt_bl f n false i)), .int (nI (tt_to f n (tt_bl f n false i)))]))]) A
set_option maxHeartbeats 4000000 in
set_option maxRecDepth 100000 in
theorem c_SC_step (l : Launch) (D : va_G) (cI cB cL : ClassId) (a r : Nat) (f : Nat → Int32) (n : Nat) (q : Nat) (tk : Int32) (i0 i : Nat) (hn : n ≤ 16384) (hi : i ≤ n) (sz : Nat) : Met l y_SC_step w_SC_step rm_SC_step (va_Pc [.ref q, .ref a] (fun U => U.heap.size = sz ∧ va_P D vwCl [(a, .inr (1, [.ref r, .int (nI n)])), (r, .inl (cB, 16384, .inl f)), (q, .inr (4, [.int tk, .int (nI i0), .int (nI i)]))] U.heap ∧ va_K D vwCl (tt_ty cI cB cL) U ∧ va_D (fun _ => True) [(a, .inr (1, [.ref r, .int (nI n)])), (r, .inl (cB, 16384, .inl f)), (q, .inr (4, [.int tk, .int (nI i0), .int (nI i)]))])) (q_SC_step D cI cB cL a r f n q tk i0 i (va_A [(a, .inr (1, [.ref r, .int (nI n)])), (r, .inl (cB, 16384, .inl f)), (q, .inr (4, [.int tk, .int (nI i0), .int (nI i)]))] sz)) 0 0 (va_A [(a, .inr (1, [.ref r, .int (nI n)])), (r, .inl (cB, 16384, .inl f)), (q, .inr (4, [.int tk, .int (nI i0), .int (nI i)]))] sz) := by
  refine Met.ofW (cc := b_SC_step) (maxL := 2) (ret := none) (by decide) rfl ?_
  intro p e s m args below meth c s₁ B hml hv
  obtain ⟨rfl, hsz, hP, hK, hD0⟩ := hv
  have hx := B.exec
  have hb := B.bytes
  have hr := B.returns
  have hts := atoms_spec (ws := w_SC_step) B.pre
  have htT : ∀ w ∈ tt_T, w.before _ s = true := fun w h => hts w (List.mem_cons_of_mem _ h)
  have hown : s.vm.findClass R_SC = some m.cls := findClass_of_methodNamed B.named
  have hlocks := B.notSynchronized
  subst hsz
  have hD := hD0.self (sz := s.heap.size)
  generalize hAe : va_A [(a, .inr (1, [.ref r, .int (nI n)])), (r, .inl (cB, 16384, .inl f)), (q, .inr (4, [.int tk, .int (nI i0), .int (nI i)]))] s.heap.size = A at hD ⊢
  have hA : ∀ q : Nat, s.heap.size ≤ q → A q := fun q h => by rw [← hAe]; exact Or.inr h
  have hS : va_S A s.heap s.heap [] := va_S.rf
  have hl := lv_entry ([.ref q, .ref a]) (n := 2) (Nat.le_of_ble_eq_true rfl)
  rw [lg_entry_eq]
  generalize (lg_sl ([.ref q, .ref a]) ++ List.replicate (2 - (lg_sl ([.ref q, .ref a])).length) Slot.unset).toArray = ls at hl ⊢
  have hl : lv_has ls 2 [(0, .ref q), (1, .ref a)] := hl
  have hP : va_P D vwCl [(a, .inr (1, [.ref r, .int (nI n)])), (r, .inl (cB, 16384, .inl f)), (q, .inr (4, [.int tk, .int (nI i0), .int (nI i)]))] s.heap := hP
  refine lv_aload_n hx hb d_SC_step_0 rfl (lv_at hl 0 rfl) ?_
  refine lv_aload_n hx hb d_SC_step_1 rfl (lv_at hl 1 rfl) ?_
  refine lv_aload_n hx hb d_SC_step_2 rfl (lv_at hl 0 rfl) ?_
  refine va_get (D := D) (ci := 4) (v := .int (nI i)) (C := R_SC) (T := F_SC) (N := 3) hx hb htT i_SC hown hK hP 2 rfl rfl 2 (by decide) (htT _ k_117) (fun _ h9 => h9) rfl d_SC_step_3 ?_
  refine tt_roI (va_runS (As := [.ref a, .int (nI i)]) (rest := [.ref q]) ⟨hx, hb, hml, hown, hts⟩ (c_SC_behindBlanks l D cI cB cL a r f n i (by omega) (by omega)) (cwS 2 hts (tt_gS k_204 k_205 k_5 k_206) rfl rfl rfl hv_SC_behindBlanks ⟨Nat.le_of_ble_eq_true rfl, Nat.le_of_ble_eq_true rfl⟩) (tt_ropreS (w := [(a, .inr (1, [.ref r, .int (nI n)])), (r, .inl (cB, 16384, .inl f))]) hK hP [0, 1] rfl) rfl rfl hl.1 rfl (lv_room (Nat.le_of_ble_eq_true rfl)) d_SC_step_6 ⟨Nat.zero_le _, Nat.zero_le _⟩) hS hP (fun H locs hP hS => ?_)
  have b_6_0 := tt_blb f n false i
  refine va_put (D := D) (ci := 4) (v := .int (nI (tt_bl f n false i))) (ty := .int) (C := R_SC) (T := F_SC) (N := 3) hx hb htT i_SC t_SC t_SC_ok n_SC hown hK hP hD hS 2 rfl rfl 1 (by decide) (htT _ k_115) (fun _ h9 => h9) rfl (by decide +kernel) rfl rfl (Nat.le_of_ble_eq_true rfl) d_SC_step_9 (fun H locs hP hD hS => ?_)
  have hP : va_P D vwCl [(a, .inr (1, [.ref r, .int (nI n)])), (r, .inl (cB, 16384, .inl f)), (q, .inr (4, [.int tk, .int (nI (tt_bl f n false i)), .int (nI i)]))] H := hP
  have hD : va_D A [(a, .inr (1, [.ref r, .int (nI n)])), (r, .inl (cB, 16384, .inl f)), (q, .inr (4, [.int tk, .int (nI (tt_bl f n false i)), .int (nI i)]))] := hD
  refine lv_aload_n hx hb d_SC_step_12 rfl (lv_at hl 0 rfl) ?_
  refine lv_aload_n hx hb d_SC_step_13 rfl (lv_at hl 0 rfl) ?_
  refine va_get (D := D) (ci := 4) (v := .int (nI (tt_bl f n false i))) (C := R_SC) (T := F_SC) (N := 3) hx hb htT i_SC hown hK hP 2 rfl rfl 1 (by decide) (htT _ k_115) (fun _ h9 => h9) rfl d_SC_step_14 ?_
  refine va_put (D := D) (ci := 4) (v := .int (nI (tt_bl f n false i))) (ty := .int) (C := R_SC) (T := F_SC) (N := 3) hx hb htT i_SC t_SC t_SC_ok n_SC hown hK hP hD hS 2 rfl rfl 2 (by decide) (htT _ k_117) (fun _ h9 => h9) rfl (by decide +kernel) rfl rfl (Nat.le_of_ble_eq_true rfl) d_SC_step_17 (fun H locs hP hD hS => ?_)
  have hP : va_P D vwCl [(a, .inr (1, [.ref r, .int (nI n)])), (r, .inl (cB, 16384, .inl f)), (q, .inr (4, [.int tk, .int (nI (tt_bl f n false i)), .int (nI (tt_bl f n false i))]))] H := hP
  have hD : va_D A [(a, .inr (1, [.ref r, .int (nI n)])), (r, .inl (cB, 16384, .inl f)), (q, .inr (4, [.int tk, .int (nI (tt_bl f n false i)), .int (nI (tt_bl f n false i))]))] := hD
  refine lv_aload_n hx hb d_SC_step_20 rfl (lv_at hl 0 rfl) ?_
  refine lv_aload_n hx hb d_SC_step_21 rfl (lv_at hl 0 rfl) ?_
  refine lv_aload_n hx hb d_SC_step_22 rfl (lv_at hl 1 rfl) ?_
  refine lv_aload_n hx hb d_SC_step_23 rfl (lv_at hl 1 rfl) ?_
  refine lv_aload_n hx hb d_SC_step_24 rfl (lv_at hl 0 rfl) ?_
  refine va_get (D := D) (ci := 4) (v := .int (nI (tt_bl f n false i))) (C := R_SC) (T := F_SC) (N := 3) hx hb htT i_SC hown hK hP 2 rfl rfl 1 (by decide) (htT _ k_115) (fun _ h9 => h9) rfl d_SC_step_25 ?_
  refine tt_roI (va_runV (As := [.int (nI (tt_bl f n false i))]) (rest := [.ref a, .ref q, .ref q]) ⟨hx, hb, hml, hown, hts⟩ (c_BY_at l D cI cB cL a r f n (tt_bl f n false i) (by omega) (by omega)) (cwV 1 hts (tt_gV k_207 k_174 k_175 k_2 k_176) rfl rfl rfl hv_BY_at ⟨Nat.le_of_ble_eq_true rfl, Nat.le_of_ble_eq_true rfl⟩) (tt_ropreV (w := [(a, .inr (1, [.ref r, .int (nI n)])), (r, .inl (cB, 16384, .inl f))]) hK hP [0, 1] rfl (va_recv hK hP (ci := 1) (q0 := 0) rfl rfl)) rfl rfl hl.1 rfl (lv_room (Nat.le_of_ble_eq_true rfl)) d_SC_step_28 ⟨Nat.zero_le _, Nat.zero_le _⟩) hS hP (fun H locs hP hS => ?_)
  refine tt_muI (wr := []) (va_runV (As := [.ref a, .int (tt_ch f n (tt_bl f n false i))]) (rest := [.ref q]) ⟨hx, hb, hml, hown, hts⟩ (c_SC_tokenAt l D cI cB cL a r f n q tk (tt_bl f n false i) (by omega) (by omega) _) (cwV 2 hts (tt_gV k_211 k_213 ks_0 k_5 k_214) rfl rfl rfl hv_SC_tokenAt ⟨Nat.le_of_ble_eq_true rfl, Nat.le_of_ble_eq_true rfl⟩) (tt_mupreV (w := [(a, .inr (1, [.ref r, .int (nI n)])), (r, .inl (cB, 16384, .inl f)), (q, .inr (4, [.int tk, .int (nI (tt_bl f n false i)), .int (nI (tt_bl f n false i))]))]) hK hP hD [0, 1, 2] rfl (by decide) rfl (va_recv hK hP (ci := 4) (q0 := 2) rfl rfl)) rfl rfl hl.1 rfl (lv_room (Nat.le_of_ble_eq_true rfl)) d_SC_step_31 ⟨Nat.zero_le _, Nat.zero_le _⟩) hS hP hD hA [0, 1, 2] [] rfl rfl (by decide) (by decide) (fun H locs hP hD hS => ?_)
  have hP : va_P D vwCl [(a, .inr (1, [.ref r, .int (nI n)])), (r, .inl (cB, 16384, .inl f)), (q, .inr (4, [.int tk, .int (nI (tt_bl f n false i)), .int (nI (tt_to f n (tt_bl f n false i)))]))] H := hP
  have hD : va_D A [(a, .inr (1, [.ref r, .int (nI n)])), (r, .inl (cB, 16384, .inl f)), (q, .inr (4, [.int tk, .int (nI (tt_bl f n false i)), .int (nI (tt_to f n (tt_bl f n false i)))]))] := hD
  refine va_put (D := D) (ci := 4) (v := .int (tt_tok f n (tt_bl f n false i))) (ty := .int) (C := R_SC) (T := F_SC) (N := 3) hx hb htT i_SC t_SC t_SC_ok n_SC hown hK hP hD hS 2 rfl rfl 0 (by decide) (htT _ k_114) (fun _ h9 => h9) rfl (by decide +kernel) rfl rfl (Nat.le_of_ble_eq_true rfl) d_SC_step_34 (fun H locs hP hD hS => ?_)
  have hP : va_P D vwCl [(a, .inr (1, [.ref r, .int (nI n)])), (r, .inl (cB, 16384, .inl f)), (q, .inr (4, [.int (tt_tok f n (tt_bl f n false i)), .int (nI (tt_bl f n false i)), .int (nI (tt_to f n (tt_bl f n false i)))]))] H := hP
  have hD : va_D A [(a, .inr (1, [.ref r, .int (nI n)])), (r, .inl (cB, 16384, .inl f)), (q, .inr (4, [.int (tt_tok f n (tt_bl f n false i)), .int (nI (tt_bl f n false i)), .int (nI (tt_to f n (tt_bl f n false i)))]))] := hD
  have hP9 : va_P D vwCl [(a, .inr (1, [.ref r, .int (nI n)])), (r, .inl (cB, 16384, .inl f)), (q, .inr (4, [.int (tt_tok f n (tt_bl f n false i)), .int (nI (tt_bl f n false i)), .int (nI (tt_to f n (tt_bl f n false i)))]))] H := hP.sub [0, 1, 2] rfl
  have hD9 : va_D A [(a, .inr (1, [.ref r, .int (nI n)])), (r, .inl (cB, 16384, .inl f)), (q, .inr (4, [.int (tt_tok f n (tt_bl f n false i)), .int (nI (tt_bl f n false i)), .int (nI (tt_to f n (tt_bl f n false i)))]))] := hD.sub [0, 1, 2] (by decide) rfl
  exact W.vret hx hb hr (fun t ht hW => ⟨⟨(), rfl, trivial, by rw [ht]; exact hP9, hD9⟩, hS.F ht⟩) hS.2.2 d_SC_step_37
