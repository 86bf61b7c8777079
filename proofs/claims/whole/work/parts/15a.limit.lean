abbrev rm_DE_isTooLarge : Room := { frames := 4, cells := 0, slots := 0, locals := 85 }
abbrev q_DE_isTooLarge (D : va_G) (cI cB cL : ClassId) (adK adV : Nat → Nat) (a r : Nat) (f : Nat → Int32) (n : Nat) (x y : Nat) : Array Value → State → Outcome → State → Prop := va_Qi (fun r9 (_ : Unit) => r9 = (tt_b (tt_big f n x y))) (fun _ _ => True) (fun _ => False)
set_option maxHeartbeats 4000000 in
set_option maxRecDepth 100000 in
theorem c_DE_isTooLarge (l : Launch) (D : va_G) (cI cB cL : ClassId) (adK adV : Nat → Nat) (a r : Nat) (f : Nat → Int32) (n : Nat) (x y : Nat) (hn : n ≤ 16384) (hxy : x < y) (hy : y < 1073741824) : Met l y_DE_isTooLarge w_DE_isTooLarge rm_DE_isTooLarge (va_Pc [.ref a, .int (nI x), .int (nI y)] (fun U => va_P D vwCl [(a, .inr (1, [.ref r, .int (nI n)])), (r, .inl (cB, 16384, .inl f))] U.heap ∧ va_K D vwCl (tt_ty cI cB cL) U ∧ tt_X adK adV (fun _ => False) U U.heap)) (q_DE_isTooLarge D cI cB cL adK adV a r f n x y) 0 0 (fun _ => False) := by
  refine Met.ofW (cc := b_DE_isTooLarge) (maxL := 7) (ret := (some .boolean)) (by decide) rfl ?_
  intro p e s m args below meth c s₁ B hml hv
  obtain ⟨rfl, hP, hK, hX⟩ := hv
  have hx := B.exec
  have hb := B.bytes
  have hr := B.returns
  have hts := atoms_spec (ws := w_DE_isTooLarge) B.pre
  have htT : ∀ w ∈ tt_T, w.before _ s = true := fun w h => hts w (List.mem_cons_of_mem _ h)
  have hown : s.vm.findClass R_DE = some m.cls := findClass_of_methodNamed B.named
  have hlocks := B.notSynchronized
  have hS : va_S (fun _ => False) s.heap s.heap [] := va_S.rf
  have hl := lv_entry ([.ref a, .int (nI x), .int (nI y)]) (n := 7) (Nat.le_of_ble_eq_true rfl)
  rw [lg_entry_eq]
  generalize (lg_sl ([.ref a, .int (nI x), .int (nI y)]) ++ List.replicate (7 - (lg_sl ([.ref a, .int (nI x), .int (nI y)])).length) Slot.unset).toArray = ls at hl ⊢
  have hl : lv_has ls 7 [(0, .ref a), (1, .int (nI x)), (2, .int (nI y))] := hl
  have hP : va_P D vwCl [(a, .inr (1, [.ref r, .int (nI n)])), (r, .inl (cB, 16384, .inl f))] s.heap := hP
  refine lv_aload_n hx hb d_DE_isTooLarge_0 rfl (lv_at hl 0 rfl) ?_
  refine lv_iload_n hx hb d_DE_isTooLarge_1 rfl (lv_at hl 1 rfl) ?_
  refine lv_iload_n hx hb d_DE_isTooLarge_2 rfl (lv_at hl 2 rfl) ?_
  refine tt_roI (va_runS (As := [.ref a, .int (nI x), .int (nI y)]) (rest := []) ⟨hx, hb, hml, hown, hts⟩ (c_DE_firstDigit l D cI cB cL a r f n x y (by omega) (by omega) (by omega)) (cwS 3 hts (tt_gS k_280 k_281 k_16 k_282) rfl rfl rfl hv_DE_firstDigit ⟨Nat.le_of_ble_eq_true rfl, Nat.le_of_ble_eq_true rfl⟩) (tt_ropreS (w := [(a, .inr (1, [.ref r, .int (nI n)])), (r, .inl (cB, 16384, .inl f))]) hK hP [0, 1] rfl) rfl rfl hl.1 rfl (lv_room (Nat.le_of_ble_eq_true rfl)) d_DE_isTooLarge_3 ⟨Nat.zero_le _, Nat.zero_le _⟩) hS hP (fun H locs hP hS => ?_)
  have b_3_0 := tt_fdb f n x y
  refine lv_istore_n (lv' := [(3, .int (nI (tt_fd f n x y))), (0, .ref a), (1, .int (nI x)), (2, .int (nI y))]) hx hb d_DE_isTooLarge_6 rfl hl (by decide) rfl (fun ls hl => ?_)
  refine lv_iload_n hx hb d_DE_isTooLarge_7 rfl (lv_at hl 3 rfl) ?_
  refine lv_iload_n hx hb d_DE_isTooLarge_8 rfl (lv_at hl 0 rfl) ?_
  refine lv_isub hx hb d_DE_isTooLarge_9 ?_
  refine tt_ti (show (nI y) - (nI (tt_fd f n x y)) = nI (y - (tt_fd f n x y)) from pk_sub (a := y) (b := (tt_fd f n x y)) (by omega)) ?_
  refine lv_istore (lv' := [(4, .int (nI (y - (tt_fd f n x y)))), (3, .int (nI (tt_fd f n x y))), (0, .ref a), (1, .int (nI x)), (2, .int (nI y))]) hx hb d_DE_isTooLarge_10 hl (by decide) rfl (fun ls hl => ?_)
  refine lv_iload hx hb d_DE_isTooLarge_12 (lv_at hl 0 rfl) ?_
  refine va_ldcS hx hb hown (hX.2 0 (by decide)) d_DE_isTooLarge_14 ?_
  refine tt_roI (va_runV (As := []) (rest := [.int (nI (y - (tt_fd f n x y)))]) ⟨hx, hb, hml, hown, hts⟩ (c_JS_length l D cI cB cL (adK 0) (adV 0) 309 (st_B 0) (by omega)) (cwV 0 hts (tt_gV k_285 k_286 k_287 k_17 k_288) rfl rfl rfl hv_JS_length ⟨Nat.le_of_ble_eq_true rfl, Nat.le_of_ble_eq_true rfl⟩) (tt_xpreV (w := []) tt_J.call hK hP [] rfl ((hX.1 0 (by omega)).recv hS) (fun U hU hW => (hX.1 0 (by omega)).use hS hU hW (fun _ h9 => h9.elim))) rfl rfl hl.1 rfl (lv_room (Nat.le_of_ble_eq_true rfl)) d_DE_isTooLarge_16 ⟨Nat.zero_le _, Nat.zero_le _⟩) hS hP (fun H locs hP hS => ?_)
  refine lv_icmp_eq (tgt := 38) hx hb d_DE_isTooLarge_19 (by decide) (fun c_19 => ?_) (fun c_19 => ?_)
  · have c_19 : (y - (tt_fd f n x y)) = 309 := (nI_eq (a := (y - (tt_fd f n x y))) (b := 309) (by omega) (by omega)).mp c_19
    refine lv_iconst (v := 0) hx hb d_DE_isTooLarge_38 (by decide) ?_
    refine lv_istore (lv' := [(5, .int 0), (4, .int (nI (y - (tt_fd f n x y)))), (3, .int (nI (tt_fd f n x y))), (0, .ref a), (1, .int (nI x)), (2, .int (nI y))]) hx hb d_DE_isTooLarge_39 hl (by decide) rfl (fun ls hl => ?_)
    have cut_41 : ∀ (k9 : Nat) (j : Nat) (_ : 309 - j < k9) (hj : j ≤ 309) (he : tt_cmp f n (tt_fd f n x y) j = tt_big f n x y) (H : Heap) (locs : List Loc), va_P D vwCl [(a, .inr (1, [.ref r, .int (nI n)])), (r, .inl (cB, 16384, .inl f))] H → va_S (fun _ => False) s.heap H locs → ∀ ls : Array Slot, lv_has ls 7 [(0, .ref a), (3, .int (nI (tt_fd f n x y))), (5, .int (nI j))] → W p l e (headSpec w_DE_isTooLarge rm_DE_isTooLarge).room s m ([.ref a, .int (nI x), .int (nI y)] : List Value).toArray below meth c H locs 0 0 (MQ below (q_DE_isTooLarge D cI cB cL adK adV a r f n x y) ([.ref a, .int (nI x), .int (nI y)] : List Value).toArray s 0 0 (fun _ => False)) (F0 m 41 ls []) := by
      intro k9
      induction k9 with
      | zero => intro j h9; exact absurd h9 (Nat.not_lt_zero _)
      | succ k9 ih_41 =>
        intro j h9 hj he H locs hP hS ls hl
        refine lv_iload hx hb d_DE_isTooLarge_41 (lv_at hl 2 rfl) ?_
        refine va_ldcS hx hb hown (hX.2 0 (by decide)) d_DE_isTooLarge_43 ?_
        refine tt_roI (va_runV (As := []) (rest := [.int (nI j)]) ⟨hx, hb, hml, hown, hts⟩ (c_JS_length l D cI cB cL (adK 0) (adV 0) 309 (st_B 0) (by omega)) (cwV 0 hts (tt_gV k_285 k_286 k_287 k_17 k_288) rfl rfl rfl hv_JS_length ⟨Nat.le_of_ble_eq_true rfl, Nat.le_of_ble_eq_true rfl⟩) (tt_xpreV (w := []) tt_J.call hK hP [] rfl ((hX.1 0 (by omega)).recv hS) (fun U hU hW => (hX.1 0 (by omega)).use hS hU hW (fun _ h9 => h9.elim))) rfl rfl hl.1 rfl (lv_room (Nat.le_of_ble_eq_true rfl)) d_DE_isTooLarge_45 ⟨Nat.zero_le _, Nat.zero_le _⟩) hS hP (fun H locs hP hS => ?_)
        refine lv_icmp_ge (tgt := 97) hx hb d_DE_isTooLarge_48 (by decide) (fun c_48 => ?_) (fun c_48 => ?_)
        · have c_48 : 309 ≤ j := (nI_leI (a := 309) (b := j) (by omega) (by omega)).mp c_48
          refine lv_iconst (v := 1) hx hb d_DE_isTooLarge_97 (by decide) ?_
          have o_r : (1 : Int32) = (tt_b (tt_big f n x y)) := by rw [← he, tt_cmp]; simp [tt_b, eq_true c_19, c_48, Nat.not_lt.mpr c_48] <;> (intros; omega)
          exact W.zret (ty := .boolean) (v := 1) hx hb hr (tt_nz o_r) (fun t ht hW => ⟨⟨_, (), rfl, o_r, trivial⟩, hS.F ht⟩) hS.2.2 d_DE_isTooLarge_98
        · have c_48 : ¬ 309 ≤ j := fun z9 => c_48 ((nI_leI (a := 309) (b := j) (by omega) (by omega)).mpr z9)
          have c_48 := Nat.not_le.mp c_48
          refine lv_aload_n hx hb d_DE_isTooLarge_51 rfl (lv_at hl 0 rfl) ?_
          refine lv_iload_n hx hb d_DE_isTooLarge_52 rfl (lv_at hl 1 rfl) ?_
          refine lv_iload hx hb d_DE_isTooLarge_53 (lv_at hl 2 rfl) ?_
          refine lv_iadd hx hb d_DE_isTooLarge_55 ?_
          refine tt_ti (show (nI (tt_fd f n x y)) + (nI j) = nI ((tt_fd f n x y) + j) from nI_add (tt_fd f n x y) j) ?_
          refine tt_roI (va_runV (As := [.int (nI ((tt_fd f n x y) + j))]) (rest := []) ⟨hx, hb, hml, hown, hts⟩ (c_BY_at l D cI cB cL a r f n ((tt_fd f n x y) + j) (by omega) (by omega)) (cwV 1 hts (tt_gV k_283 k_174 k_175 k_2 k_176) rfl rfl rfl hv_BY_at ⟨Nat.le_of_ble_eq_true rfl, Nat.le_of_ble_eq_true rfl⟩) (tt_ropreV (w := [(a, .inr (1, [.ref r, .int (nI n)])), (r, .inl (cB, 16384, .inl f))]) hK hP [0, 1] rfl (va_recv hK hP (ci := 1) (q0 := 0) rfl rfl)) rfl rfl hl.1 rfl (lv_room (Nat.le_of_ble_eq_true rfl)) d_DE_isTooLarge_56 ⟨Nat.zero_le _, Nat.zero_le _⟩) hS hP (fun H locs hP hS => ?_)
          refine lv_istore (lv' := [(6, .int (tt_ch f n ((tt_fd f n x y) + j))), (0, .ref a), (3, .int (nI (tt_fd f n x y))), (5, .int (nI j))]) hx hb d_DE_isTooLarge_59 hl (by decide) rfl (fun ls hl => ?_)
          refine lv_iload hx hb d_DE_isTooLarge_61 (lv_at hl 0 rfl) ?_
          refine va_ldcS hx hb hown (hX.2 0 (by decide)) d_DE_isTooLarge_63 ?_
          refine lv_iload hx hb d_DE_isTooLarge_65 (lv_at hl 3 rfl) ?_
          refine tt_roI (va_runV (As := [.int (nI j)]) (rest := [.int (tt_ch f n ((tt_fd f n x y) + j))]) ⟨hx, hb, hml, hown, hts⟩ (c_JS_charAt l D cI cB cL (adK 0) (adV 0) 309 (st_B 0) j (by omega) (by omega)) (cwV 1 hts (tt_gV k_295 k_296 k_297 k_17 k_298) rfl rfl rfl hv_JS_charAt ⟨Nat.le_of_ble_eq_true rfl, Nat.le_of_ble_eq_true rfl⟩) (tt_xpreV (w := []) tt_J.call hK hP [] rfl ((hX.1 0 (by omega)).recv hS) (fun U hU hW => (hX.1 0 (by omega)).use hS hU hW (fun _ h9 => h9.elim))) rfl rfl hl.1 rfl (lv_room (Nat.le_of_ble_eq_true rfl)) d_DE_isTooLarge_67 ⟨Nat.zero_le _, Nat.zero_le _⟩) hS hP (fun H locs hP hS => ?_)
          refine lv_icmp_eq (tgt := 91) hx hb d_DE_isTooLarge_70 (by decide) (fun c_70 => ?_) (fun c_70 => ?_)
          · skip
            refine lv_iinc (v := nI (j + 1)) (lv' := [(5, .int (nI (j + 1))), (6, .int (tt_ch f n ((tt_fd f n x y) + j))), (0, .ref a), (3, .int (nI (tt_fd f n x y)))]) hx hb d_DE_isTooLarge_91 hl (k := 3) rfl (nI_add j 1) (by decide) rfl (fun ls hl => ?_)
            refine lv_goto (tgt := 41) hx hb d_DE_isTooLarge_94 (by decide) ?_
            exact ih_41 (j + 1) (by omega) (by omega) (by rw [← he]; (conv => rhs; rw [tt_cmp]); simp [eq_true c_19, c_48, Nat.not_le.mpr c_48, eq_true c_70]) _ _ (hP.sub (ws' := [(a, .inr (1, [.ref r, .int (nI n)])), (r, .inl (cB, 16384, .inl f))]) [0, 1] rfl) hS ls (lv_sub hl [2, 3, 0] rfl)
          · skip
            refine lv_iload hx hb d_DE_isTooLarge_73 (lv_at hl 0 rfl) ?_
            refine va_ldcS hx hb hown (hX.2 0 (by decide)) d_DE_isTooLarge_75 ?_
            refine lv_iload hx hb d_DE_isTooLarge_77 (lv_at hl 3 rfl) ?_
            refine tt_roI (va_runV (As := [.int (nI j)]) (rest := [.int (tt_ch f n ((tt_fd f n x y) + j))]) ⟨hx, hb, hml, hown, hts⟩ (c_JS_charAt l D cI cB cL (adK 0) (adV 0) 309 (st_B 0) j (by omega) (by omega)) (cwV 1 hts (tt_gV k_295 k_296 k_297 k_17 k_298) rfl rfl rfl hv_JS_charAt ⟨Nat.le_of_ble_eq_true rfl, Nat.le_of_ble_eq_true rfl⟩) (tt_xpreV (w := []) tt_J.call hK hP [] rfl ((hX.1 0 (by omega)).recv hS) (fun U hU hW => (hX.1 0 (by omega)).use hS hU hW (fun _ h9 => h9.elim))) rfl rfl hl.1 rfl (lv_room (Nat.le_of_ble_eq_true rfl)) d_DE_isTooLarge_79 ⟨Nat.zero_le _, Nat.zero_le _⟩) hS hP (fun H locs hP hS => ?_)
            refine lv_icmp_le (tgt := 89) hx hb d_DE_isTooLarge_82 (by decide) (fun c_82 => ?_) (fun c_82 => ?_)
            · skip
              refine lv_iconst (v := 0) hx hb d_DE_isTooLarge_89 (by decide) ?_
              have o_r : (0 : Int32) = (tt_b (tt_big f n x y)) := by rw [← he, tt_cmp]; simp [tt_b, eq_true c_19, c_48, Nat.not_le.mpr c_48, c_70, c_82] <;> (intros; omega)
              exact W.zret (ty := .boolean) (v := 0) hx hb hr (tt_nz o_r) (fun t ht hW => ⟨⟨_, (), rfl, o_r, trivial⟩, hS.F ht⟩) hS.2.2 d_DE_isTooLarge_90
            · skip
              refine lv_iconst (v := 1) hx hb d_DE_isTooLarge_85 (by decide) ?_
              refine lv_goto (tgt := 90) hx hb d_DE_isTooLarge_86 (by decide) ?_
              have o_r : (1 : Int32) = (tt_b (tt_big f n x y)) := by rw [← he, tt_cmp]; simp [tt_b, eq_true c_19, c_48, Nat.not_le.mpr c_48, c_70, c_82] <;> (intros; omega)
              exact W.zret (ty := .boolean) (v := 1) hx hb hr (tt_nz o_r) (fun t ht hW => ⟨⟨_, (), rfl, o_r, trivial⟩, hS.F ht⟩) hS.2.2 d_DE_isTooLarge_90
    exact cut_41 _ 0 (Nat.lt_succ_self _) (by omega) (by simp [tt_big, eq_true c_19]) _ _ (hP.sub (ws' := [(a, .inr (1, [.ref r, .int (nI n)])), (r, .inl (cB, 16384, .inl f))]) [0, 1] rfl) hS ls (lv_sub hl [3, 2, 0] rfl)
  · have c_19 : ¬ (y - (tt_fd f n x y)) = 309 := fun z9 => c_19 ((nI_eq (a := (y - (tt_fd f n x y))) (b := 309) (by omega) (by omega)).mpr z9)
    refine lv_iload hx hb d_DE_isTooLarge_22 (lv_at hl 0 rfl) ?_
    refine va_ldcS hx hb hown (hX.2 0 (by decide)) d_DE_isTooLarge_24 ?_
    refine tt_roI (va_runV (As := []) (rest := [.int (nI (y - (tt_fd f n x y)))]) ⟨hx, hb, hml, hown, hts⟩ (c_JS_length l D cI cB cL (adK 0) (adV 0) 309 (st_B 0) (by omega)) (cwV 0 hts (tt_gV k_285 k_286 k_287 k_17 k_288) rfl rfl rfl hv_JS_length ⟨Nat.le_of_ble_eq_true rfl, Nat.le_of_ble_eq_true rfl⟩) (tt_xpreV (w := []) tt_J.call hK hP [] rfl ((hX.1 0 (by omega)).recv hS) (fun U hU hW => (hX.1 0 (by omega)).use hS hU hW (fun _ h9 => h9.elim))) rfl rfl hl.1 rfl (lv_room (Nat.le_of_ble_eq_true rfl)) d_DE_isTooLarge_26 ⟨Nat.zero_le _, Nat.zero_le _⟩) hS hP (fun H locs hP hS => ?_)
    refine lv_icmp_le (tgt := 36) hx hb d_DE_isTooLarge_29 (by decide) (fun c_29 => ?_) (fun c_29 => ?_)
    · have c_29 : (y - (tt_fd f n x y)) ≤ 309 := (nI_leI (a := (y - (tt_fd f n x y))) (b := 309) (by omega) (by omega)).mp c_29
      refine lv_iconst (v := 0) hx hb d_DE_isTooLarge_36 (by decide) ?_
      have o_r : (0 : Int32) = (tt_b (tt_big f n x y)) := by simp [tt_big, tt_b, c_19, c_29, Nat.not_lt.mpr c_29]
      exact W.zret (ty := .boolean) (v := 0) hx hb hr (tt_nz o_r) (fun t ht hW => ⟨⟨_, (), rfl, o_r, trivial⟩, hS.F ht⟩) hS.2.2 d_DE_isTooLarge_37
    · have c_29 : ¬ (y - (tt_fd f n x y)) ≤ 309 := fun z9 => c_29 ((nI_leI (a := (y - (tt_fd f n x y))) (b := 309) (by omega) (by omega)).mpr z9)
      have c_29 := Nat.not_le.mp c_29
      refine lv_iconst (v := 1) hx hb d_DE_isTooLarge_32 (by decide) ?_
      refine lv_goto (tgt := 37) hx hb d_DE_isTooLarge_33 (by decide) ?_
      have o_r : (1 : Int32) = (tt_b (tt_big f n x y)) := by simp [tt_big, tt_b, c_19, c_29, Nat.not_le.mpr c_29]
      exact W.zret (ty := .boolean) (v := 1) hx hb hr (tt_nz o_r) (fun t ht hW => ⟨⟨_, (), rfl, o_r, trivial⟩, hS.F ht⟩) hS.2.2 d_DE_isTooLarge_37
