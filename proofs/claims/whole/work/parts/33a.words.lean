abbrev rm_KW_line : Room := { frames := 0, cells := 0, slots := 0, locals := 0 }
abbrev q_KW_line (D : va_G) (cI cB cL : ClassId) (adK adV : Nat → Nat) (i : Nat) : Array Value → State → Outcome → State → Prop := va_Qr (fun (_ : Unit) => True) (fun _ a _ => a = adK (i + 1)) (fun _ => False)
set_option maxHeartbeats 4000000 in
set_option maxRecDepth 100000 in
theorem c_KW_line (l : Launch) (D : va_G) (cI cB cL : ClassId) (adK adV : Nat → Nat) (i : Nat) (hi : i < 11) : Met l y_KW_line w_KW_line rm_KW_line (va_Pc [.int (nI i)] (fun U => va_P D vwCl [] U.heap ∧ va_K D vwCl (tt_ty cI cB cL) U ∧ tt_X adK adV (fun _ => False) U U.heap)) (q_KW_line D cI cB cL adK adV i) 0 0 (fun _ => False) := by
  refine Met.ofW (cc := b_KW_line) (maxL := 1) (ret := (some (.object "java/lang/String"))) (by decide) rfl ?_
  intro p e s m args below meth c s₁ B hml hv
  obtain ⟨rfl, hP, hK, hX⟩ := hv
  have hx := B.exec
  have hb := B.bytes
  have hr := B.returns
  have hts := atoms_spec (ws := w_KW_line) B.pre
  have htT : ∀ w ∈ tt_T, w.before _ s = true := fun w h => hts w (List.mem_cons_of_mem _ h)
  have hown : s.vm.findClass R_KW = some m.cls := findClass_of_methodNamed B.named
  have hlocks := B.notSynchronized
  have hS : va_S (fun _ => False) s.heap s.heap [] := va_S.rf
  have hl := lv_entry ([.int (nI i)]) (n := 1) (Nat.le_of_ble_eq_true rfl)
  rw [lg_entry_eq]
  generalize (lg_sl ([.int (nI i)]) ++ List.replicate (1 - (lg_sl ([.int (nI i)])).length) Slot.unset).toArray = ls at hl ⊢
  have hl : lv_has ls 1 [(0, .int (nI i))] := hl
  have hP : va_P D vwCl [] s.heap := hP
  refine lv_iload_n hx hb d_KW_line_0 rfl (lv_at hl 0 rfl) ?_
  by_cases k_1 : nI i = 0
  · refine lv_tableIn (off := 59) (tgt := 60) hx hb d_KW_line_1 (by rw [k_1]; decide +kernel) (by rw [k_1]; decide +kernel) (by rw [k_1]; decide +kernel) (by decide) ?_
    have ik : i = 0 := (nI_eq (a := i) (b := 0) (by omega) (by omega)).mp k_1
    subst ik
    refine va_ldcS hx hb hown (hX.2 1 (by decide)) d_KW_line_60 ?_
    exact W.aret (v := .ref (adK 1)) hx hb hr (Or.inl ⟨_, rfl⟩) (Or.inr ⟨_, rfl⟩) (fun t ht hW => ⟨⟨(), _, rfl, trivial, rfl⟩, hS.F ht⟩) hS.2.2 d_KW_line_62
  have n_1_0 := k_1
  by_cases k_1 : nI i = 1
  · refine lv_tableIn (off := 62) (tgt := 63) hx hb d_KW_line_1 (by rw [k_1]; decide +kernel) (by rw [k_1]; decide +kernel) (by rw [k_1]; decide +kernel) (by decide) ?_
    have ik : i = 1 := (nI_eq (a := i) (b := 1) (by omega) (by omega)).mp k_1
    subst ik
    refine va_ldcS hx hb hown (hX.2 2 (by decide)) d_KW_line_63 ?_
    exact W.aret (v := .ref (adK 2)) hx hb hr (Or.inl ⟨_, rfl⟩) (Or.inr ⟨_, rfl⟩) (fun t ht hW => ⟨⟨(), _, rfl, trivial, rfl⟩, hS.F ht⟩) hS.2.2 d_KW_line_65
  have n_1_1 := k_1
  by_cases k_1 : nI i = 2
  · refine lv_tableIn (off := 65) (tgt := 66) hx hb d_KW_line_1 (by rw [k_1]; decide +kernel) (by rw [k_1]; decide +kernel) (by rw [k_1]; decide +kernel) (by decide) ?_
    have ik : i = 2 := (nI_eq (a := i) (b := 2) (by omega) (by omega)).mp k_1
    subst ik
    refine va_ldcS hx hb hown (hX.2 3 (by decide)) d_KW_line_66 ?_
    exact W.aret (v := .ref (adK 3)) hx hb hr (Or.inl ⟨_, rfl⟩) (Or.inr ⟨_, rfl⟩) (fun t ht hW => ⟨⟨(), _, rfl, trivial, rfl⟩, hS.F ht⟩) hS.2.2 d_KW_line_68
  have n_1_2 := k_1
  by_cases k_1 : nI i = 3
  · refine lv_tableIn (off := 68) (tgt := 69) hx hb d_KW_line_1 (by rw [k_1]; decide +kernel) (by rw [k_1]; decide +kernel) (by rw [k_1]; decide +kernel) (by decide) ?_
    have ik : i = 3 := (nI_eq (a := i) (b := 3) (by omega) (by omega)).mp k_1
    subst ik
    refine va_ldcS hx hb hown (hX.2 4 (by decide)) d_KW_line_69 ?_
    exact W.aret (v := .ref (adK 4)) hx hb hr (Or.inl ⟨_, rfl⟩) (Or.inr ⟨_, rfl⟩) (fun t ht hW => ⟨⟨(), _, rfl, trivial, rfl⟩, hS.F ht⟩) hS.2.2 d_KW_line_71
  have n_1_3 := k_1
  by_cases k_1 : nI i = 4
  · refine lv_tableIn (off := 71) (tgt := 72) hx hb d_KW_line_1 (by rw [k_1]; decide +kernel) (by rw [k_1]; decide +kernel) (by rw [k_1]; decide +kernel) (by decide) ?_
    have ik : i = 4 := (nI_eq (a := i) (b := 4) (by omega) (by omega)).mp k_1
    subst ik
    refine va_ldcS hx hb hown (hX.2 5 (by decide)) d_KW_line_72 ?_
    exact W.aret (v := .ref (adK 5)) hx hb hr (Or.inl ⟨_, rfl⟩) (Or.inr ⟨_, rfl⟩) (fun t ht hW => ⟨⟨(), _, rfl, trivial, rfl⟩, hS.F ht⟩) hS.2.2 d_KW_line_74
  have n_1_4 := k_1
  by_cases k_1 : nI i = 5
  · refine lv_tableIn (off := 74) (tgt := 75) hx hb d_KW_line_1 (by rw [k_1]; decide +kernel) (by rw [k_1]; decide +kernel) (by rw [k_1]; decide +kernel) (by decide) ?_
    have ik : i = 5 := (nI_eq (a := i) (b := 5) (by omega) (by omega)).mp k_1
    subst ik
    refine va_ldcS hx hb hown (hX.2 6 (by decide)) d_KW_line_75 ?_
    exact W.aret (v := .ref (adK 6)) hx hb hr (Or.inl ⟨_, rfl⟩) (Or.inr ⟨_, rfl⟩) (fun t ht hW => ⟨⟨(), _, rfl, trivial, rfl⟩, hS.F ht⟩) hS.2.2 d_KW_line_77
  have n_1_5 := k_1
  by_cases k_1 : nI i = 6
  · refine lv_tableIn (off := 77) (tgt := 78) hx hb d_KW_line_1 (by rw [k_1]; decide +kernel) (by rw [k_1]; decide +kernel) (by rw [k_1]; decide +kernel) (by decide) ?_
    have ik : i = 6 := (nI_eq (a := i) (b := 6) (by omega) (by omega)).mp k_1
    subst ik
    refine va_ldcS hx hb hown (hX.2 7 (by decide)) d_KW_line_78 ?_
    exact W.aret (v := .ref (adK 7)) hx hb hr (Or.inl ⟨_, rfl⟩) (Or.inr ⟨_, rfl⟩) (fun t ht hW => ⟨⟨(), _, rfl, trivial, rfl⟩, hS.F ht⟩) hS.2.2 d_KW_line_80
  have n_1_6 := k_1
  by_cases k_1 : nI i = 7
  · refine lv_tableIn (off := 80) (tgt := 81) hx hb d_KW_line_1 (by rw [k_1]; decide +kernel) (by rw [k_1]; decide +kernel) (by rw [k_1]; decide +kernel) (by decide) ?_
    have ik : i = 7 := (nI_eq (a := i) (b := 7) (by omega) (by omega)).mp k_1
    subst ik
    refine va_ldcS hx hb hown (hX.2 8 (by decide)) d_KW_line_81 ?_
    exact W.aret (v := .ref (adK 8)) hx hb hr (Or.inl ⟨_, rfl⟩) (Or.inr ⟨_, rfl⟩) (fun t ht hW => ⟨⟨(), _, rfl, trivial, rfl⟩, hS.F ht⟩) hS.2.2 d_KW_line_83
  have n_1_7 := k_1
  by_cases k_1 : nI i = 8
  · refine lv_tableIn (off := 83) (tgt := 84) hx hb d_KW_line_1 (by rw [k_1]; decide +kernel) (by rw [k_1]; decide +kernel) (by rw [k_1]; decide +kernel) (by decide) ?_
    have ik : i = 8 := (nI_eq (a := i) (b := 8) (by omega) (by omega)).mp k_1
    subst ik
    refine va_ldcS hx hb hown (hX.2 9 (by decide)) d_KW_line_84 ?_
    exact W.aret (v := .ref (adK 9)) hx hb hr (Or.inl ⟨_, rfl⟩) (Or.inr ⟨_, rfl⟩) (fun t ht hW => ⟨⟨(), _, rfl, trivial, rfl⟩, hS.F ht⟩) hS.2.2 d_KW_line_86
  have n_1_8 := k_1
  by_cases k_1 : nI i = 9
  · refine lv_tableIn (off := 86) (tgt := 87) hx hb d_KW_line_1 (by rw [k_1]; decide +kernel) (by rw [k_1]; decide +kernel) (by rw [k_1]; decide +kernel) (by decide) ?_
    have ik : i = 9 := (nI_eq (a := i) (b := 9) (by omega) (by omega)).mp k_1
    subst ik
    refine va_ldcS hx hb hown (hX.2 10 (by decide)) d_KW_line_87 ?_
    exact W.aret (v := .ref (adK 10)) hx hb hr (Or.inl ⟨_, rfl⟩) (Or.inr ⟨_, rfl⟩) (fun t ht hW => ⟨⟨(), _, rfl, trivial, rfl⟩, hS.F ht⟩) hS.2.2 d_KW_line_89
  have n_1_9 := k_1
  by_cases k_1 : nI i = 10
  · refine lv_tableIn (off := 89) (tgt := 90) hx hb d_KW_line_1 (by rw [k_1]; decide +kernel) (by rw [k_1]; decide +kernel) (by rw [k_1]; decide +kernel) (by decide) ?_
    have ik : i = 10 := (nI_eq (a := i) (b := 10) (by omega) (by omega)).mp k_1
    subst ik
    refine va_ldcS hx hb hown (hX.2 11 (by decide)) d_KW_line_90 ?_
    exact W.aret (v := .ref (adK 11)) hx hb hr (Or.inl ⟨_, rfl⟩) (Or.inr ⟨_, rfl⟩) (fun t ht hW => ⟨⟨(), _, rfl, trivial, rfl⟩, hS.F ht⟩) hS.2.2 d_KW_line_92
  have n_1_10 := k_1
  rcases (show i = 0 ∨ i = 1 ∨ i = 2 ∨ i = 3 ∨ i = 4 ∨ i = 5 ∨ i = 6 ∨ i = 7 ∨ i = 8 ∨ i = 9 ∨ i = 10 by omega) with rfl | rfl | rfl | rfl | rfl | rfl | rfl | rfl | rfl | rfl | rfl
  · exact absurd rfl n_1_0
  · exact absurd rfl n_1_1
  · exact absurd rfl n_1_2
  · exact absurd rfl n_1_3
  · exact absurd rfl n_1_4
  · exact absurd rfl n_1_5
  · exact absurd rfl n_1_6
  · exact absurd rfl n_1_7
  · exact absurd rfl n_1_8
  · exact absurd rfl n_1_9
  · exact absurd rfl n_1_10
abbrev rm_KW_isSame : Room := { frames := 4, cells := 0, slots := 0, locals := 85 }
abbrev q_KW_isSame (D : va_G) (cI cB cL : ClassId) (q v N : Nat) (b : Nat → Int32) (a r : Nat) (f : Nat → Int32) (n : Nat) (bg bh x y : Nat) : Array Value → State → Outcome → State → Prop := va_Qi (fun r9 (_ : Unit) => r9 = (tt_b (tt_same b bg bh f n x y))) (fun _ _ => True) (fun _ => False)
set_option maxHeartbeats 4000000 in
set_option maxRecDepth 100000 in
theorem c_KW_isSame (l : Launch) (D : va_G) (cI cB cL : ClassId) (q v N : Nat) (b : Nat → Int32) (a r : Nat) (f : Nat → Int32) (n : Nat) (bg bh x y : Nat) (hN : N < 2147483648) (hn : n ≤ 16384) (hbb : bg ≤ bh ∧ bh ≤ N) (hN2 : N ≤ 1000) (hxy : x ≤ y ∧ y ≤ 16384) : Met l y_KW_isSame w_KW_isSame rm_KW_isSame (va_Pc [.ref q, .int (nI bg), .int (nI bh), .ref a, .int (nI x), .int (nI y)] (fun U => va_P D vwCl [(a, .inr (1, [.ref r, .int (nI n)])), (r, .inl (cB, 16384, .inl f))] U.heap ∧ va_K D vwCl (tt_ty cI cB cL) U ∧ tt_J q v N b (fun _ => False) U U.heap)) (q_KW_isSame D cI cB cL q v N b a r f n bg bh x y) 0 0 (fun _ => False) := by
  refine Met.ofW (cc := b_KW_isSame) (maxL := 7) (ret := (some .boolean)) (by decide) rfl ?_
  intro p e s m args below meth c s₁ B hml hv
  obtain ⟨rfl, hP, hK, hJ⟩ := hv
  have hx := B.exec
  have hb := B.bytes
  have hr := B.returns
  have hts := atoms_spec (ws := w_KW_isSame) B.pre
  have htT : ∀ w ∈ tt_T, w.before _ s = true := fun w h => hts w (List.mem_cons_of_mem _ h)
  have hown : s.vm.findClass R_KW = some m.cls := findClass_of_methodNamed B.named
  have hlocks := B.notSynchronized
  have hS : va_S (fun _ => False) s.heap s.heap [] := va_S.rf
  have hl := lv_entry ([.ref q, .int (nI bg), .int (nI bh), .ref a, .int (nI x), .int (nI y)]) (n := 7) (Nat.le_of_ble_eq_true rfl)
  rw [lg_entry_eq]
  generalize (lg_sl ([.ref q, .int (nI bg), .int (nI bh), .ref a, .int (nI x), .int (nI y)]) ++ List.replicate (7 - (lg_sl ([.ref q, .int (nI bg), .int (nI bh), .ref a, .int (nI x), .int (nI y)])).length) Slot.unset).toArray = ls at hl ⊢
  have hl : lv_has ls 7 [(0, .ref q), (1, .int (nI bg)), (2, .int (nI bh)), (3, .ref a), (4, .int (nI x)), (5, .int (nI y))] := hl
  have hP : va_P D vwCl [(a, .inr (1, [.ref r, .int (nI n)])), (r, .inl (cB, 16384, .inl f))] s.heap := hP
  refine lv_iload_n hx hb d_KW_isSame_0 rfl (lv_at hl 2 rfl) ?_
  refine lv_iload_n hx hb d_KW_isSame_1 rfl (lv_at hl 1 rfl) ?_
  refine lv_isub hx hb d_KW_isSame_2 ?_
  refine tt_ti (show (nI bh) - (nI bg) = nI (bh - bg) from pk_sub (a := bh) (b := bg) (by omega)) ?_
  refine lv_iload hx hb d_KW_isSame_3 (lv_at hl 5 rfl) ?_
  refine lv_iload hx hb d_KW_isSame_5 (lv_at hl 4 rfl) ?_
  refine lv_isub hx hb d_KW_isSame_7 ?_
  refine tt_ti (show (nI y) - (nI x) = nI (y - x) from pk_sub (a := y) (b := x) (by omega)) ?_
  refine lv_icmp_eq (tgt := 13) hx hb d_KW_isSame_8 (by decide) (fun c_8 => ?_) (fun c_8 => ?_)
  · have c_8 : (bh - bg) = (y - x) := (nI_eq (a := (bh - bg)) (b := (y - x)) (by omega) (by omega)).mp c_8
    refine lv_iload_n hx hb d_KW_isSame_13 rfl (lv_at hl 1 rfl) ?_
    refine lv_istore (lv' := [(6, .int (nI bg)), (0, .ref q), (1, .int (nI bg)), (2, .int (nI bh)), (3, .ref a), (4, .int (nI x)), (5, .int (nI y))]) hx hb d_KW_isSame_14 hl (by decide) rfl (fun ls hl => ?_)
    have cut_16 : ∀ (k9 : Nat) (j : Nat) (_ : bh - j < k9) (hj : bg ≤ j ∧ j ≤ bh) (he : tt_eqF b f n x bg bh j = tt_same b bg bh f n x y) (H : Heap) (locs : List Loc), va_P D vwCl [(a, .inr (1, [.ref r, .int (nI n)])), (r, .inl (cB, 16384, .inl f))] H → va_S (fun _ => False) s.heap H locs → ∀ ls : Array Slot, lv_has ls 7 [(0, .ref q), (1, .int (nI bg)), (2, .int (nI bh)), (3, .ref a), (4, .int (nI x)), (6, .int (nI j))] → W p l e (headSpec w_KW_isSame rm_KW_isSame).room s m ([.ref q, .int (nI bg), .int (nI bh), .ref a, .int (nI x), .int (nI y)] : List Value).toArray below meth c H locs 0 0 (MQ below (q_KW_isSame D cI cB cL q v N b a r f n bg bh x y) ([.ref q, .int (nI bg), .int (nI bh), .ref a, .int (nI x), .int (nI y)] : List Value).toArray s 0 0 (fun _ => False)) (F0 m 16 ls []) := by
      intro k9
      induction k9 with
      | zero => intro j h9; exact absurd h9 (Nat.not_lt_zero _)
      | succ k9 ih_16 =>
        intro j h9 hj he H locs hP hS ls hl
        refine lv_iload hx hb d_KW_isSame_16 (lv_at hl 5 rfl) ?_
        refine lv_iload_n hx hb d_KW_isSame_18 rfl (lv_at hl 2 rfl) ?_
        refine lv_icmp_ge (tgt := 59) hx hb d_KW_isSame_19 (by decide) (fun c_19 => ?_) (fun c_19 => ?_)
        · have c_19 : bh ≤ j := (nI_leI (a := bh) (b := j) (by omega) (by omega)).mp c_19
          refine lv_iconst (v := 1) hx hb d_KW_isSame_59 (by decide) ?_
          have o_r : (1 : Int32) = (tt_b (tt_same b bg bh f n x y)) := by rw [← he, tt_eqF]; simp [tt_b, eq_true c_8, c_19, Nat.not_lt.mpr c_19] <;> (intros; omega)
          exact W.zret (ty := .boolean) (v := 1) hx hb hr (tt_nz o_r) (fun t ht hW => ⟨⟨_, (), rfl, o_r, trivial⟩, hS.F ht⟩) hS.2.2 d_KW_isSame_60
        · have c_19 : ¬ bh ≤ j := fun z9 => c_19 ((nI_leI (a := bh) (b := j) (by omega) (by omega)).mpr z9)
          have c_19 := Nat.not_le.mp c_19
          refine lv_iload hx hb d_KW_isSame_22 (lv_at hl 5 rfl) ?_
          refine lv_aload_n hx hb d_KW_isSame_24 rfl (lv_at hl 0 rfl) ?_
          refine tt_roI (va_runV (As := []) (rest := [.int (nI j)]) ⟨hx, hb, hml, hown, hts⟩ (c_JS_length l D cI cB cL q v N b (by omega)) (cwV 0 hts (tt_gV k_458 k_286 k_287 k_17 k_288) rfl rfl rfl hv_JS_length ⟨Nat.le_of_ble_eq_true rfl, Nat.le_of_ble_eq_true rfl⟩) (tt_xpreV (w := []) tt_J.call hK hP [] rfl (hJ.recv hS) (fun U hU hW => hJ.use hS hU hW (fun _ h9 => h9.elim))) rfl rfl hl.1 rfl (lv_room (Nat.le_of_ble_eq_true rfl)) d_KW_isSame_25 ⟨Nat.zero_le _, Nat.zero_le _⟩) hS hP (fun H locs hP hS => ?_)
          refine lv_icmp_ge (tgt := 59) hx hb d_KW_isSame_28 (by decide) (fun c_28 => ?_) (fun c_28 => ?_)
          · have c_28 : N ≤ j := (nI_leI (a := N) (b := j) (by omega) (by omega)).mp c_28
            exact absurd c_28 (by omega)
          · have c_28 : ¬ N ≤ j := fun z9 => c_28 ((nI_leI (a := N) (b := j) (by omega) (by omega)).mpr z9)
            have c_28 := Nat.not_le.mp c_28
            refine lv_aload_n hx hb d_KW_isSame_31 rfl (lv_at hl 0 rfl) ?_
            refine lv_iload hx hb d_KW_isSame_32 (lv_at hl 5 rfl) ?_
            refine tt_roI (va_runV (As := [.int (nI j)]) (rest := []) ⟨hx, hb, hml, hown, hts⟩ (c_JS_charAt l D cI cB cL q v N b j (by omega) (by omega)) (cwV 1 hts (tt_gV k_459 k_296 k_297 k_17 k_298) rfl rfl rfl hv_JS_charAt ⟨Nat.le_of_ble_eq_true rfl, Nat.le_of_ble_eq_true rfl⟩) (tt_xpreV (w := []) tt_J.call hK hP [] rfl (hJ.recv hS) (fun U hU hW => hJ.use hS hU hW (fun _ h9 => h9.elim))) rfl rfl hl.1 rfl (lv_room (Nat.le_of_ble_eq_true rfl)) d_KW_isSame_34 ⟨Nat.zero_le _, Nat.zero_le _⟩) hS hP (fun H locs hP hS => ?_)
            refine lv_aload_n hx hb d_KW_isSame_37 rfl (lv_at hl 3 rfl) ?_
            refine lv_iload hx hb d_KW_isSame_38 (lv_at hl 4 rfl) ?_
            refine lv_iload hx hb d_KW_isSame_40 (lv_at hl 5 rfl) ?_
            refine lv_iadd hx hb d_KW_isSame_42 ?_
            refine tt_ti (show (nI x) + (nI j) = nI (x + j) from nI_add x j) ?_
            refine lv_iload_n hx hb d_KW_isSame_43 rfl (lv_at hl 1 rfl) ?_
            refine lv_isub hx hb d_KW_isSame_44 ?_
            refine tt_ti (show (nI (x + j)) - (nI bg) = nI ((x + j) - bg) from pk_sub (a := (x + j)) (b := bg) (by omega)) ?_
            refine tt_roI (va_runV (As := [.int (nI ((x + j) - bg))]) (rest := [.int (b j &&& 255)]) ⟨hx, hb, hml, hown, hts⟩ (c_BY_at l D cI cB cL a r f n ((x + j) - bg) (by omega) (by omega)) (cwV 1 hts (tt_gV k_463 k_174 k_175 k_2 k_176) rfl rfl rfl hv_BY_at ⟨Nat.le_of_ble_eq_true rfl, Nat.le_of_ble_eq_true rfl⟩) (tt_ropreV (w := [(a, .inr (1, [.ref r, .int (nI n)])), (r, .inl (cB, 16384, .inl f))]) hK hP [0, 1] rfl (va_recv hK hP (ci := 1) (q0 := 0) rfl rfl)) rfl rfl hl.1 rfl (lv_room (Nat.le_of_ble_eq_true rfl)) d_KW_isSame_45 ⟨Nat.zero_le _, Nat.zero_le _⟩) hS hP (fun H locs hP hS => ?_)
            refine lv_icmp_eq (tgt := 53) hx hb d_KW_isSame_48 (by decide) (fun c_48 => ?_) (fun c_48 => ?_)
            · skip
              refine lv_iinc (v := nI (j + 1)) (lv' := [(6, .int (nI (j + 1))), (0, .ref q), (1, .int (nI bg)), (2, .int (nI bh)), (3, .ref a), (4, .int (nI x))]) hx hb d_KW_isSame_53 hl (k := 5) rfl (nI_add j 1) (by decide) rfl (fun ls hl => ?_)
              refine lv_goto (tgt := 16) hx hb d_KW_isSame_56 (by decide) ?_
              exact ih_16 (j + 1) (by omega) (by omega) (by rw [← he]; (conv => rhs; rw [tt_eqF, dif_pos c_19]); simp [eq_true c_8, c_19, Nat.not_le.mpr c_19, c_28, Nat.not_le.mpr c_28, eq_true c_48]) _ _ (hP.sub (ws' := [(a, .inr (1, [.ref r, .int (nI n)])), (r, .inl (cB, 16384, .inl f))]) [0, 1] rfl) hS ls (lv_sub hl [1, 2, 3, 4, 5, 0] rfl)
            · skip
              refine lv_iconst (v := 0) hx hb d_KW_isSame_51 (by decide) ?_
              have o_r : (0 : Int32) = (tt_b (tt_same b bg bh f n x y)) := by rw [← he, tt_eqF]; simp [tt_b, eq_true c_8, c_19, Nat.not_le.mpr c_19, c_28, Nat.not_le.mpr c_28, c_48] <;> (intros; omega)
              exact W.zret (ty := .boolean) (v := 0) hx hb hr (tt_nz o_r) (fun t ht hW => ⟨⟨_, (), rfl, o_r, trivial⟩, hS.F ht⟩) hS.2.2 d_KW_isSame_52
    exact cut_16 _ bg (Nat.lt_succ_self _) (by omega) (by simp [tt_same, eq_true c_8]) _ _ (hP.sub (ws' := [(a, .inr (1, [.ref r, .int (nI n)])), (r, .inl (cB, 16384, .inl f))]) [0, 1] rfl) hS ls (lv_sub hl [1, 2, 3, 4, 5, 0] rfl)
  · have c_8 : ¬ (bh - bg) = (y - x) := fun z9 => c_8 ((nI_eq (a := (bh - bg)) (b := (y - x)) (by omega) (by omega)).mpr z9)
    refine lv_iconst (v := 0) hx hb d_KW_isSame_11 (by decide) ?_
    have o_r : (0 : Int32) = (tt_b (tt_same b bg bh f n x y)) := by simp [tt_same, tt_b, c_8]
    exact W.zret (ty := .boolean) (v := 0) hx hb hr (tt_nz o_r) (fun t ht hW => ⟨⟨_, (), rfl, o_r, trivial⟩, hS.F ht⟩) hS.2.2 d_KW_isSame_12
abbrev rm_KW_numberOf : Room := { frames := 5, cells := 0, slots := 0, locals := 111 }
abbrev q_KW_numberOf (D : va_G) (cI cB cL : ClassId) (adK adV : Nat → Nat) (a r : Nat) (f : Nat → Int32) (n : Nat) (x y : Nat) : Array Value → State → Outcome → State → Prop := va_Qi (fun r9 (_ : Unit) => r9 = (tt_kn f n x y 0 0 0 0)) (fun _ _ => True) (fun _ => False)
set_option maxHeartbeats 4000000 in
set_option maxRecDepth 100000 in
theorem c_KW_numberOf (l : Launch) (D : va_G) (cI cB cL : ClassId) (adK adV : Nat → Nat) (a r : Nat) (f : Nat → Int32) (n : Nat) (x y : Nat) (hn : n ≤ 16384) (hxy : x ≤ y ∧ y ≤ 16384) : Met l y_KW_numberOf w_KW_numberOf rm_KW_numberOf (va_Pc [.ref a, .int (nI x), .int (nI y)] (fun U => va_P D vwCl [(a, .inr (1, [.ref r, .int (nI n)])), (r, .inl (cB, 16384, .inl f))] U.heap ∧ va_K D vwCl (tt_ty cI cB cL) U ∧ tt_X adK adV (fun _ => False) U U.heap)) (q_KW_numberOf D cI cB cL adK adV a r f n x y) 0 0 (fun _ => False) := by
  refine Met.ofW (cc := b_KW_numberOf) (maxL := 8) (ret := (some .int)) (by decide) rfl ?_
  intro p e s m args below meth c s₁ B hml hv
  obtain ⟨rfl, hP, hK, hX⟩ := hv
  have hx := B.exec
  have hb := B.bytes
  have hr := B.returns
  have hts := atoms_spec (ws := w_KW_numberOf) B.pre
  have htT : ∀ w ∈ tt_T, w.before _ s = true := fun w h => hts w (List.mem_cons_of_mem _ h)
  have hown : s.vm.findClass R_KW = some m.cls := findClass_of_methodNamed B.named
  have hlocks := B.notSynchronized
  have hS : va_S (fun _ => False) s.heap s.heap [] := va_S.rf
  have hl := lv_entry ([.ref a, .int (nI x), .int (nI y)]) (n := 8) (Nat.le_of_ble_eq_true rfl)
  rw [lg_entry_eq]
  generalize (lg_sl ([.ref a, .int (nI x), .int (nI y)]) ++ List.replicate (8 - (lg_sl ([.ref a, .int (nI x), .int (nI y)])).length) Slot.unset).toArray = ls at hl ⊢
  have hl : lv_has ls 8 [(0, .ref a), (1, .int (nI x)), (2, .int (nI y))] := hl
  have hP : va_P D vwCl [(a, .inr (1, [.ref r, .int (nI n)])), (r, .inl (cB, 16384, .inl f))] s.heap := hP
  refine lv_iconst (v := 0) hx hb d_KW_numberOf_0 (by decide) ?_
  refine lv_istore_n (lv' := [(3, .int 0), (0, .ref a), (1, .int (nI x)), (2, .int (nI y))]) hx hb d_KW_numberOf_1 rfl hl (by decide) rfl (fun ls hl => ?_)
  refine lv_iconst (v := 0) hx hb d_KW_numberOf_2 (by decide) ?_
  refine lv_istore (lv' := [(4, .int 0), (3, .int 0), (0, .ref a), (1, .int (nI x)), (2, .int (nI y))]) hx hb d_KW_numberOf_3 hl (by decide) rfl (fun ls hl => ?_)
  have cut_5 : ∀ (k9 : Nat) (i : Nat) (nu : Nat) (_ : 11 - i < k9) (hi : i ≤ 11) (hnu : nu ≤ 70 * i) (he : tt_kn f n x y i 0 0 nu = tt_kn f n x y 0 0 0 0) (H : Heap) (locs : List Loc), va_P D vwCl [(a, .inr (1, [.ref r, .int (nI n)])), (r, .inl (cB, 16384, .inl f))] H → va_S (fun _ => False) s.heap H locs → ∀ ls : Array Slot, lv_has ls 8 [(0, .ref a), (1, .int (nI x)), (2, .int (nI y)), (3, .int (nI nu)), (4, .int (nI i))] → W p l e (headSpec w_KW_numberOf rm_KW_numberOf).room s m ([.ref a, .int (nI x), .int (nI y)] : List Value).toArray below meth c H locs 0 0 (MQ below (q_KW_numberOf D cI cB cL adK adV a r f n x y) ([.ref a, .int (nI x), .int (nI y)] : List Value).toArray s 0 0 (fun _ => False)) (F0 m 5 ls []) := by
    intro k9
    induction k9 with
    | zero => intro i nu h9; exact absurd h9 (Nat.not_lt_zero _)
    | succ k9 ih_5 =>
      intro i nu h9 hi hnu he H locs hP hS ls hl
      refine lv_iload hx hb d_KW_numberOf_5 (lv_at hl 4 rfl) ?_
      refine lv_bipush (v := 11) hx hb d_KW_numberOf_7 (by decide) ?_
      refine lv_icmp_ge (tgt := 98) hx hb d_KW_numberOf_9 (by decide) (fun c_9 => ?_) (fun c_9 => ?_)
      · have c_9 : 11 ≤ i := (nI_leI (a := 11) (b := i) (by omega) (by omega)).mp c_9
        refine lv_iconst (v := (-1)) hx hb d_KW_numberOf_98 (by decide) ?_
        have o_r : ((-1) : Int32) = (tt_kn f n x y 0 0 0 0) := by rw [← he, tt_kn, dif_neg (by omega)]
        exact W.iret (v := (-1)) hx hb hr (fun t ht hW => ⟨⟨_, (), rfl, o_r, trivial⟩, hS.F ht⟩) hS.2.2 d_KW_numberOf_99
      · have c_9 : ¬ 11 ≤ i := fun z9 => c_9 ((nI_leI (a := 11) (b := i) (by omega) (by omega)).mpr z9)
        have c_9 := Nat.not_le.mp c_9
        have hL9 := st_lenb i c_9
        refine lv_iload hx hb d_KW_numberOf_12 (lv_at hl 4 rfl) ?_
        refine tt_roR (va_runS (As := [.int (nI i)]) (rest := []) ⟨hx, hb, hml, hown, hts⟩ (c_KW_line l D cI cB cL adK adV i (by omega)) (cwS 1 hts (tt_gS k_443 k_444 k_21 k_445) rfl rfl rfl hv_KW_line ⟨Nat.le_of_ble_eq_true rfl, Nat.le_of_ble_eq_true rfl⟩) (tt_xpreS (w := []) tt_X.call hK hP [] rfl (fun U hU hW => hX.use hS hU hW (fun _ h9 => h9.elim))) rfl rfl hl.1 rfl (lv_room (Nat.le_of_ble_eq_true rfl)) d_KW_numberOf_14 ⟨Nat.zero_le _, Nat.zero_le _⟩) hS hP (fun H locs hP hS => ?_)
        refine lv_astore (lv' := [(5, .ref (adK (i + 1))), (0, .ref a), (1, .int (nI x)), (2, .int (nI y)), (3, .int (nI nu)), (4, .int (nI i))]) hx hb d_KW_numberOf_17 hl (by decide) rfl (fun ls hl => ?_)
        refine lv_iconst (v := 0) hx hb d_KW_numberOf_19 (by decide) ?_
        refine lv_istore (lv' := [(6, .int 0), (5, .ref (adK (i + 1))), (0, .ref a), (1, .int (nI x)), (2, .int (nI y)), (3, .int (nI nu)), (4, .int (nI i))]) hx hb d_KW_numberOf_20 hl (by decide) rfl (fun ls hl => ?_)
        refine lv_iconst (v := 0) hx hb d_KW_numberOf_22 (by decide) ?_
        refine lv_istore (lv' := [(7, .int 0), (6, .int 0), (5, .ref (adK (i + 1))), (0, .ref a), (1, .int (nI x)), (2, .int (nI y)), (3, .int (nI nu)), (4, .int (nI i))]) hx hb d_KW_numberOf_23 hl (by decide) rfl (fun ls hl => ?_)
        have cut_25 : ∀ (k9 : Nat) (bg : Nat) (bh : Nat) (nv : Nat) (_ : st_len.getD (i + 1) 0 + 1 - bh < k9) (hbb : bg ≤ bh ∧ bh ≤ st_len.getD (i + 1) 0 + 1) (hnv : nv ≤ 70 * i + bh) (he2 : tt_kn f n x y i bg bh nv = tt_kn f n x y 0 0 0 0) (H : Heap) (locs : List Loc), va_P D vwCl [(a, .inr (1, [.ref r, .int (nI n)])), (r, .inl (cB, 16384, .inl f))] H → va_S (fun _ => False) s.heap H locs → ∀ ls : Array Slot, lv_has ls 8 [(0, .ref a), (1, .int (nI x)), (2, .int (nI y)), (3, .int (nI nv)), (4, .int (nI i)), (5, .ref (adK (i + 1))), (6, .int (nI bg)), (7, .int (nI bh))] → W p l e (headSpec w_KW_numberOf rm_KW_numberOf).room s m ([.ref a, .int (nI x), .int (nI y)] : List Value).toArray below meth c H locs 0 0 (MQ below (q_KW_numberOf D cI cB cL adK adV a r f n x y) ([.ref a, .int (nI x), .int (nI y)] : List Value).toArray s 0 0 (fun _ => False)) (F0 m 25 ls []) := by
          intro k9
          induction k9 with
          | zero => intro bg bh nv h9; exact absurd h9 (Nat.not_lt_zero _)
          | succ k9 ih_25 =>
            intro bg bh nv h9 hbb hnv he2 H locs hP hS ls hl
            refine lv_iload hx hb d_KW_numberOf_25 (lv_at hl 7 rfl) ?_
            refine lv_aload hx hb d_KW_numberOf_27 (lv_at hl 5 rfl) ?_
            refine tt_roI (va_runV (As := []) (rest := [.int (nI bh)]) ⟨hx, hb, hml, hown, hts⟩ (c_JS_length l D cI cB cL (adK (i + 1)) (adV (i + 1)) (st_len.getD (i + 1) 0) (st_B (i + 1)) (by omega)) (cwV 0 hts (tt_gV k_458 k_286 k_287 k_17 k_288) rfl rfl rfl hv_JS_length ⟨Nat.le_of_ble_eq_true rfl, Nat.le_of_ble_eq_true rfl⟩) (tt_xpreV (w := []) tt_J.call hK hP [] rfl ((hX.1 (i + 1) (by omega)).recv hS) (fun U hU hW => (hX.1 (i + 1) (by omega)).use hS hU hW (fun _ h9 => h9.elim))) rfl rfl hl.1 rfl (lv_room (Nat.le_of_ble_eq_true rfl)) d_KW_numberOf_29 ⟨Nat.zero_le _, Nat.zero_le _⟩) hS hP (fun H locs hP hS => ?_)
            refine lv_icmp_gt (tgt := 92) hx hb d_KW_numberOf_32 (by decide) (fun c_32 => ?_) (fun c_32 => ?_)
            · have c_32 : (st_len.getD (i + 1) 0) < bh := (nI_ltI (a := (st_len.getD (i + 1) 0)) (b := bh) (by omega) (by omega)).mp c_32
              refine lv_iinc (v := nI (i + 1)) (lv' := [(4, .int (nI (i + 1))), (0, .ref a), (1, .int (nI x)), (2, .int (nI y)), (3, .int (nI nv)), (5, .ref (adK (i + 1))), (6, .int (nI bg)), (7, .int (nI bh))]) hx hb d_KW_numberOf_92 hl (k := 4) rfl (nI_add i 1) (by decide) rfl (fun ls hl => ?_)
              refine lv_goto (tgt := 5) hx hb d_KW_numberOf_95 (by decide) ?_
              exact ih_5 (i + 1) nv (by omega) (by omega) (by omega) (by rw [← he2]; (conv => rhs; rw [tt_kn, dif_pos c_9, dif_neg (by omega)])) _ _ (hP.sub (ws' := [(a, .inr (1, [.ref r, .int (nI n)])), (r, .inl (cB, 16384, .inl f))]) [0, 1] rfl) hS ls (lv_sub hl [1, 2, 3, 4, 0] rfl)
            · have c_32 : ¬ (st_len.getD (i + 1) 0) < bh := fun z9 => c_32 ((nI_ltI (a := (st_len.getD (i + 1) 0)) (b := bh) (by omega) (by omega)).mpr z9)
              have c_32 := Nat.not_lt.mp c_32
              refine lv_iload hx hb d_KW_numberOf_35 (lv_at hl 7 rfl) ?_
              refine lv_aload hx hb d_KW_numberOf_37 (lv_at hl 5 rfl) ?_
              refine tt_roI (va_runV (As := []) (rest := [.int (nI bh)]) ⟨hx, hb, hml, hown, hts⟩ (c_JS_length l D cI cB cL (adK (i + 1)) (adV (i + 1)) (st_len.getD (i + 1) 0) (st_B (i + 1)) (by omega)) (cwV 0 hts (tt_gV k_458 k_286 k_287 k_17 k_288) rfl rfl rfl hv_JS_length ⟨Nat.le_of_ble_eq_true rfl, Nat.le_of_ble_eq_true rfl⟩) (tt_xpreV (w := []) tt_J.call hK hP [] rfl ((hX.1 (i + 1) (by omega)).recv hS) (fun U hU hW => (hX.1 (i + 1) (by omega)).use hS hU hW (fun _ h9 => h9.elim))) rfl rfl hl.1 rfl (lv_room (Nat.le_of_ble_eq_true rfl)) d_KW_numberOf_39 ⟨Nat.zero_le _, Nat.zero_le _⟩) hS hP (fun H locs hP hS => ?_)
              refine lv_icmp_ge (tgt := 60) hx hb d_KW_numberOf_42 (by decide) (fun c_42 => ?_) (fun c_42 => ?_)
              · have c_42 : (st_len.getD (i + 1) 0) ≤ bh := (nI_leI (a := (st_len.getD (i + 1) 0)) (b := bh) (by omega) (by omega)).mp c_42
                refine lv_aload hx hb d_KW_numberOf_60 (lv_at hl 5 rfl) ?_
                refine lv_iload hx hb d_KW_numberOf_62 (lv_at hl 6 rfl) ?_
                refine lv_iload hx hb d_KW_numberOf_64 (lv_at hl 7 rfl) ?_
                refine lv_aload_n hx hb d_KW_numberOf_66 rfl (lv_at hl 0 rfl) ?_
                refine lv_iload_n hx hb d_KW_numberOf_67 rfl (lv_at hl 1 rfl) ?_
                refine lv_iload_n hx hb d_KW_numberOf_68 rfl (lv_at hl 2 rfl) ?_
                refine tt_roI (va_runS (As := [.ref (adK (i + 1)), .int (nI bg), .int (nI bh), .ref a, .int (nI x), .int (nI y)]) (rest := []) ⟨hx, hb, hml, hown, hts⟩ (c_KW_isSame l D cI cB cL (adK (i + 1)) (adV (i + 1)) (st_len.getD (i + 1) 0) (st_B (i + 1)) a r f n bg bh x y (by omega) (by omega) (by omega) (by omega) (by omega)) (cwS 6 hts (tt_gS k_460 k_461 k_21 k_462) rfl rfl rfl hv_KW_isSame ⟨Nat.le_of_ble_eq_true rfl, Nat.le_of_ble_eq_true rfl⟩) (tt_xpreS (w := [(a, .inr (1, [.ref r, .int (nI n)])), (r, .inl (cB, 16384, .inl f))]) tt_J.call hK hP [0, 1] rfl (fun U hU hW => (hX.1 (i + 1) (by omega)).use hS hU hW (fun _ h9 => h9.elim))) rfl rfl hl.1 rfl (lv_room (Nat.le_of_ble_eq_true rfl)) d_KW_numberOf_69 ⟨Nat.zero_le _, Nat.zero_le _⟩) hS hP (fun H locs hP hS => ?_)
                refine lv_if_eq (tgt := 77) hx hb d_KW_numberOf_72 (by decide) (fun c_72 => ?_) (fun c_72 => ?_)
                · have c_72 := tt_b0.mp c_72
                  refine lv_iinc (v := nI (nv + 1)) (lv' := [(3, .int (nI (nv + 1))), (0, .ref a), (1, .int (nI x)), (2, .int (nI y)), (4, .int (nI i)), (5, .ref (adK (i + 1))), (6, .int (nI bg)), (7, .int (nI bh))]) hx hb d_KW_numberOf_77 hl (k := 3) rfl (nI_add nv 1) (by decide) rfl (fun ls hl => ?_)
                  refine lv_iload hx hb d_KW_numberOf_80 (lv_at hl 7 rfl) ?_
                  refine lv_iconst (v := 1) hx hb d_KW_numberOf_82 (by decide) ?_
                  refine lv_iadd hx hb d_KW_numberOf_83 ?_
                  refine tt_ti (show (nI bh) + 1 = nI (bh + 1) from nI_add bh 1) ?_
                  refine lv_istore (lv' := [(6, .int (nI (bh + 1))), (3, .int (nI (nv + 1))), (0, .ref a), (1, .int (nI x)), (2, .int (nI y)), (4, .int (nI i)), (5, .ref (adK (i + 1))), (7, .int (nI bh))]) hx hb d_KW_numberOf_84 hl (by decide) rfl (fun ls hl => ?_)
                  refine lv_iinc (v := nI (bh + 1)) (lv' := [(7, .int (nI (bh + 1))), (6, .int (nI (bh + 1))), (3, .int (nI (nv + 1))), (0, .ref a), (1, .int (nI x)), (2, .int (nI y)), (4, .int (nI i)), (5, .ref (adK (i + 1)))]) hx hb d_KW_numberOf_86 hl (k := 7) rfl (nI_add bh 1) (by decide) rfl (fun ls hl => ?_)
                  refine lv_goto (tgt := 25) hx hb d_KW_numberOf_89 (by decide) ?_
                  exact ih_25 (bh + 1) (bh + 1) (nv + 1) (by omega) (by omega) (by omega) (by rw [← he2]; (conv => rhs; rw [tt_kn, dif_pos c_9, dif_pos c_32]); simp [-List.getD_eq_getElem?_getD, c_9, Nat.not_le.mpr c_9, c_32, Nat.not_lt.mpr c_32, c_42, Nat.not_lt.mpr c_42, c_72]) _ _ (hP.sub (ws' := [(a, .inr (1, [.ref r, .int (nI n)])), (r, .inl (cB, 16384, .inl f))]) [0, 1] rfl) hS ls (lv_sub hl [3, 4, 5, 2, 6, 7, 1, 0] rfl)
                · have c_72 := tt_bn0.mp c_72
                  refine lv_iload_n hx hb d_KW_numberOf_75 rfl (lv_at hl 3 rfl) ?_
                  have o_r : (nI nv) = (tt_kn f n x y 0 0 0 0) := by rw [← he2, tt_kn, dif_pos c_9, dif_pos c_32]; simp [-List.getD_eq_getElem?_getD, c_9, Nat.not_le.mpr c_9, c_32, Nat.not_lt.mpr c_32, c_42, Nat.not_lt.mpr c_42, c_72]
                  exact W.iret (v := nI nv) hx hb hr (fun t ht hW => ⟨⟨_, (), rfl, o_r, trivial⟩, hS.F ht⟩) hS.2.2 d_KW_numberOf_76
              · have c_42 : ¬ (st_len.getD (i + 1) 0) ≤ bh := fun z9 => c_42 ((nI_leI (a := (st_len.getD (i + 1) 0)) (b := bh) (by omega) (by omega)).mpr z9)
                have c_42 := Nat.not_le.mp c_42
                refine lv_aload hx hb d_KW_numberOf_45 (lv_at hl 5 rfl) ?_
                refine lv_iload hx hb d_KW_numberOf_47 (lv_at hl 7 rfl) ?_
                refine tt_roI (va_runV (As := [.int (nI bh)]) (rest := []) ⟨hx, hb, hml, hown, hts⟩ (c_JS_charAt l D cI cB cL (adK (i + 1)) (adV (i + 1)) (st_len.getD (i + 1) 0) (st_B (i + 1)) bh (by omega) (by omega)) (cwV 1 hts (tt_gV k_459 k_296 k_297 k_17 k_298) rfl rfl rfl hv_JS_charAt ⟨Nat.le_of_ble_eq_true rfl, Nat.le_of_ble_eq_true rfl⟩) (tt_xpreV (w := []) tt_J.call hK hP [] rfl ((hX.1 (i + 1) (by omega)).recv hS) (fun U hU hW => (hX.1 (i + 1) (by omega)).use hS hU hW (fun _ h9 => h9.elim))) rfl rfl hl.1 rfl (lv_room (Nat.le_of_ble_eq_true rfl)) d_KW_numberOf_49 ⟨Nat.zero_le _, Nat.zero_le _⟩) hS hP (fun H locs hP hS => ?_)
                refine lv_bipush (v := 32) hx hb d_KW_numberOf_52 (by decide) ?_
                refine lv_icmp_eq (tgt := 60) hx hb d_KW_numberOf_54 (by decide) (fun c_54 => ?_) (fun c_54 => ?_)
                · skip
                  refine lv_aload hx hb d_KW_numberOf_60 (lv_at hl 5 rfl) ?_
                  refine lv_iload hx hb d_KW_numberOf_62 (lv_at hl 6 rfl) ?_
                  refine lv_iload hx hb d_KW_numberOf_64 (lv_at hl 7 rfl) ?_
                  refine lv_aload_n hx hb d_KW_numberOf_66 rfl (lv_at hl 0 rfl) ?_
                  refine lv_iload_n hx hb d_KW_numberOf_67 rfl (lv_at hl 1 rfl) ?_
                  refine lv_iload_n hx hb d_KW_numberOf_68 rfl (lv_at hl 2 rfl) ?_
                  refine tt_roI (va_runS (As := [.ref (adK (i + 1)), .int (nI bg), .int (nI bh), .ref a, .int (nI x), .int (nI y)]) (rest := []) ⟨hx, hb, hml, hown, hts⟩ (c_KW_isSame l D cI cB cL (adK (i + 1)) (adV (i + 1)) (st_len.getD (i + 1) 0) (st_B (i + 1)) a r f n bg bh x y (by omega) (by omega) (by omega) (by omega) (by omega)) (cwS 6 hts (tt_gS k_460 k_461 k_21 k_462) rfl rfl rfl hv_KW_isSame ⟨Nat.le_of_ble_eq_true rfl, Nat.le_of_ble_eq_true rfl⟩) (tt_xpreS (w := [(a, .inr (1, [.ref r, .int (nI n)])), (r, .inl (cB, 16384, .inl f))]) tt_J.call hK hP [0, 1] rfl (fun U hU hW => (hX.1 (i + 1) (by omega)).use hS hU hW (fun _ h9 => h9.elim))) rfl rfl hl.1 rfl (lv_room (Nat.le_of_ble_eq_true rfl)) d_KW_numberOf_69 ⟨Nat.zero_le _, Nat.zero_le _⟩) hS hP (fun H locs hP hS => ?_)
                  refine lv_if_eq (tgt := 77) hx hb d_KW_numberOf_72 (by decide) (fun c_72 => ?_) (fun c_72 => ?_)
                  · have c_72 := tt_b0.mp c_72
                    refine lv_iinc (v := nI (nv + 1)) (lv' := [(3, .int (nI (nv + 1))), (0, .ref a), (1, .int (nI x)), (2, .int (nI y)), (4, .int (nI i)), (5, .ref (adK (i + 1))), (6, .int (nI bg)), (7, .int (nI bh))]) hx hb d_KW_numberOf_77 hl (k := 3) rfl (nI_add nv 1) (by decide) rfl (fun ls hl => ?_)
                    refine lv_iload hx hb d_KW_numberOf_80 (lv_at hl 7 rfl) ?_
                    refine lv_iconst (v := 1) hx hb d_KW_numberOf_82 (by decide) ?_
                    refine lv_iadd hx hb d_KW_numberOf_83 ?_
                    refine tt_ti (show (nI bh) + 1 = nI (bh + 1) from nI_add bh 1) ?_
                    refine lv_istore (lv' := [(6, .int (nI (bh + 1))), (3, .int (nI (nv + 1))), (0, .ref a), (1, .int (nI x)), (2, .int (nI y)), (4, .int (nI i)), (5, .ref (adK (i + 1))), (7, .int (nI bh))]) hx hb d_KW_numberOf_84 hl (by decide) rfl (fun ls hl => ?_)
                    refine lv_iinc (v := nI (bh + 1)) (lv' := [(7, .int (nI (bh + 1))), (6, .int (nI (bh + 1))), (3, .int (nI (nv + 1))), (0, .ref a), (1, .int (nI x)), (2, .int (nI y)), (4, .int (nI i)), (5, .ref (adK (i + 1)))]) hx hb d_KW_numberOf_86 hl (k := 7) rfl (nI_add bh 1) (by decide) rfl (fun ls hl => ?_)
                    refine lv_goto (tgt := 25) hx hb d_KW_numberOf_89 (by decide) ?_
                    exact ih_25 (bh + 1) (bh + 1) (nv + 1) (by omega) (by omega) (by omega) (by rw [← he2]; (conv => rhs; rw [tt_kn, dif_pos c_9, dif_pos c_32]); simp [-List.getD_eq_getElem?_getD, c_9, Nat.not_le.mpr c_9, c_32, Nat.not_lt.mpr c_32, c_42, Nat.not_le.mpr c_42, eq_true c_54, c_72]) _ _ (hP.sub (ws' := [(a, .inr (1, [.ref r, .int (nI n)])), (r, .inl (cB, 16384, .inl f))]) [0, 1] rfl) hS ls (lv_sub hl [3, 4, 5, 2, 6, 7, 1, 0] rfl)
                  · have c_72 := tt_bn0.mp c_72
                    refine lv_iload_n hx hb d_KW_numberOf_75 rfl (lv_at hl 3 rfl) ?_
                    have o_r : (nI nv) = (tt_kn f n x y 0 0 0 0) := by rw [← he2, tt_kn, dif_pos c_9, dif_pos c_32]; simp [-List.getD_eq_getElem?_getD, c_9, Nat.not_le.mpr c_9, c_32, Nat.not_lt.mpr c_32, c_42, Nat.not_le.mpr c_42, eq_true c_54, c_72]
                    exact W.iret (v := nI nv) hx hb hr (fun t ht hW => ⟨⟨_, (), rfl, o_r, trivial⟩, hS.F ht⟩) hS.2.2 d_KW_numberOf_76
                · skip
                  refine lv_goto (tgt := 86) hx hb d_KW_numberOf_57 (by decide) ?_
                  refine lv_iinc (v := nI (bh + 1)) (lv' := [(7, .int (nI (bh + 1))), (0, .ref a), (1, .int (nI x)), (2, .int (nI y)), (3, .int (nI nv)), (4, .int (nI i)), (5, .ref (adK (i + 1))), (6, .int (nI bg))]) hx hb d_KW_numberOf_86 hl (k := 7) rfl (nI_add bh 1) (by decide) rfl (fun ls hl => ?_)
                  refine lv_goto (tgt := 25) hx hb d_KW_numberOf_89 (by decide) ?_
                  exact ih_25 bg (bh + 1) nv (by omega) (by omega) (by omega) (by rw [← he2]; (conv => rhs; rw [tt_kn, dif_pos c_9, dif_pos c_32]); simp [-List.getD_eq_getElem?_getD, c_9, Nat.not_le.mpr c_9, c_32, Nat.not_lt.mpr c_32, c_42, Nat.not_le.mpr c_42, c_54]) _ _ (hP.sub (ws' := [(a, .inr (1, [.ref r, .int (nI n)])), (r, .inl (cB, 16384, .inl f))]) [0, 1] rfl) hS ls (lv_sub hl [1, 2, 3, 4, 5, 6, 7, 0] rfl)
        exact cut_25 _ 0 0 nu (Nat.lt_succ_self _) (by omega) (by omega) (by exact he) _ _ (hP.sub (ws' := [(a, .inr (1, [.ref r, .int (nI n)])), (r, .inl (cB, 16384, .inl f))]) [0, 1] rfl) hS ls (lv_sub hl [3, 4, 5, 6, 7, 2, 1, 0] rfl)
  exact cut_5 _ 0 0 (Nat.lt_succ_self _) (by omega) (by omega) (by rfl) _ _ (hP.sub (ws' := [(a, .inr (1, [.ref r, .int (nI n)])), (r, .inl (cB, 16384, .inl f))]) [0, 1] rfl) hS ls (lv_sub hl [2, 3, 4, 1, 0] rfl)
abbrev rm_TT_wordv : Room := { frames := 6, cells := 0, slots := 0, locals := 138 }
abbrev q_TT_wordv (D : va_G) (cI cB cL : ClassId) (adK adV : Nat → Nat) (ad : Nat → Nat) (r : Nat → Nat → Int32) (n : Nat) (f : Nat → Int32) (tn : Nat) (u : Nat) (L : Nat → Nat) (k x y : Nat) : Array Value → State → Outcome → State → Prop := va_Qi (fun r9 (_ : Unit) => r9 = (tt_kn f tn x y 0 0 0 0)) (fun _ _ => True) (fun _ => False)
set_option maxHeartbeats 4000000 in
set_option maxRecDepth 100000 in
theorem c_TT_wordv (l : Launch) (D : va_G) (cI cB cL : ClassId) (adK adV : Nat → Nat) (ad : Nat → Nat) (r : Nat → Nat → Int32) (n : Nat) (f : Nat → Int32) (tn : Nat) (u : Nat) (L : Nat → Nat) (k x y : Nat) (hk : k < n) (hm : n ≤ 4096) (ht : tn ≤ 16384) (hy : y ≤ tn) (h4 : r 4 k = nI x) (h5 : r 5 k = nI y) (h0 : r 0 k = 4) (hxy : x ≤ y) : Met l y_TT_word w_TT_word rm_TT_wordv (va_Pc [.ref (ad 13), .int (nI k)] (fun U => va_P D vwCl [(ad 13, .inr (0, [.ref (ad 14), .ref (ad 0), .ref (ad 11), .ref (ad 16)])), (ad 0, .inr (5, [.ref (ad 1), .ref (ad 3), .ref (ad 4), .ref (ad 5), .ref (ad 6), .ref (ad 7), .ref (ad 8), .ref (ad 9), .ref (ad 10), .int (nI n)])), (ad 3, .inl (cI, 4096, .inl (r 0))), (ad 4, .inl (cI, 4096, .inl (r 1))), (ad 5, .inl (cI, 4096, .inl (r 2))), (ad 6, .inl (cI, 4096, .inl (r 3))), (ad 7, .inl (cI, 4096, .inl (r 4))), (ad 8, .inl (cI, 4096, .inl (r 5))), (ad 9, .inl (cI, 4096, .inl (r 6))), (ad 10, .inl (cI, 4096, .inl (r 7))), (ad 1, .inr (1, [.ref (ad 2), .int (nI tn)])), (ad 2, .inl (cB, 16384, .inl f)), (ad 16, .inr (2, [.ref (ad 17), .int (nI u)])), (ad 17, .inl (cI, 32, .inl (tt_nf L)))] U.heap ∧ va_K D vwCl (tt_ty cI cB cL) U ∧ tt_X adK adV (fun _ => False) U U.heap)) (q_TT_wordv D cI cB cL adK adV ad r n f tn u L k x y) 0 0 (fun _ => False) := by
  refine Met.ofW (cc := b_TT_word) (maxL := 2) (ret := (some .int)) (by decide) rfl ?_
  intro p e s m args below meth c s₁ B hml hv
  obtain ⟨rfl, hP, hK, hX⟩ := hv
  have hx := B.exec
  have hb := B.bytes
  have hr := B.returns
  have hts := atoms_spec (ws := w_TT_word) B.pre
  have htT : ∀ w ∈ tt_T, w.before _ s = true := fun w h => hts w (List.mem_cons_of_mem _ h)
  have hown : s.vm.findClass R_TT = some m.cls := findClass_of_methodNamed B.named
  have hlocks := B.notSynchronized
  have hS : va_S (fun _ => False) s.heap s.heap [] := va_S.rf
  have hl := lv_entry ([.ref (ad 13), .int (nI k)]) (n := 2) (Nat.le_of_ble_eq_true rfl)
  rw [lg_entry_eq]
  generalize (lg_sl ([.ref (ad 13), .int (nI k)]) ++ List.replicate (2 - (lg_sl ([.ref (ad 13), .int (nI k)])).length) Slot.unset).toArray = ls at hl ⊢
  have hl : lv_has ls 2 [(0, .ref (ad 13)), (1, .int (nI k))] := hl
  have hP : va_P D vwCl [(ad 13, .inr (0, [.ref (ad 14), .ref (ad 0), .ref (ad 11), .ref (ad 16)])), (ad 0, .inr (5, [.ref (ad 1), .ref (ad 3), .ref (ad 4), .ref (ad 5), .ref (ad 6), .ref (ad 7), .ref (ad 8), .ref (ad 9), .ref (ad 10), .int (nI n)])), (ad 3, .inl (cI, 4096, .inl (r 0))), (ad 4, .inl (cI, 4096, .inl (r 1))), (ad 5, .inl (cI, 4096, .inl (r 2))), (ad 6, .inl (cI, 4096, .inl (r 3))), (ad 7, .inl (cI, 4096, .inl (r 4))), (ad 8, .inl (cI, 4096, .inl (r 5))), (ad 9, .inl (cI, 4096, .inl (r 6))), (ad 10, .inl (cI, 4096, .inl (r 7))), (ad 1, .inr (1, [.ref (ad 2), .int (nI tn)])), (ad 2, .inl (cB, 16384, .inl f)), (ad 16, .inr (2, [.ref (ad 17), .int (nI u)])), (ad 17, .inl (cI, 32, .inl (tt_nf L)))] s.heap := hP
  refine lv_aload_n hx hb d_TT_word_0 rfl (lv_at hl 0 rfl) ?_
  refine lv_iload_n hx hb d_TT_word_1 rfl (lv_at hl 1 rfl) ?_
  refine tt_roI (va_runV (As := [.int (nI k)]) (rest := []) ⟨hx, hb, hml, hown, hts⟩ (c_TT_kind l D cI cB cL ad r n (nI k)) (cwV 1 hts (tt_gV k_431 k_402 k_403 k_1 k_404) rfl rfl rfl hv_TT_kind ⟨Nat.le_of_ble_eq_true rfl, Nat.le_of_ble_eq_true rfl⟩) (tt_ropreV (w := [(ad 13, .inr (0, [.ref (ad 14), .ref (ad 0), .ref (ad 11), .ref (ad 16)])), (ad 0, .inr (5, [.ref (ad 1), .ref (ad 3), .ref (ad 4), .ref (ad 5), .ref (ad 6), .ref (ad 7), .ref (ad 8), .ref (ad 9), .ref (ad 10), .int (nI n)])), (ad 3, .inl (cI, 4096, .inl (r 0))), (ad 4, .inl (cI, 4096, .inl (r 1))), (ad 5, .inl (cI, 4096, .inl (r 2))), (ad 6, .inl (cI, 4096, .inl (r 3))), (ad 7, .inl (cI, 4096, .inl (r 4))), (ad 8, .inl (cI, 4096, .inl (r 5))), (ad 9, .inl (cI, 4096, .inl (r 6))), (ad 10, .inl (cI, 4096, .inl (r 7)))]) hK hP [0, 1, 2, 3, 4, 5, 6, 7, 8, 9] rfl (va_recv hK hP (ci := 0) (q0 := 0) rfl rfl)) rfl rfl hl.1 rfl (lv_room (Nat.le_of_ble_eq_true rfl)) d_TT_word_2 ⟨Nat.zero_le _, Nat.zero_le _⟩) hS hP (fun H locs hP hS => ?_)
  refine tt_ti (show tt_in (r 0) n (nI k) = 4 from by rw [tt_in_at hk hm]; exact h0) ?_
  refine lv_iconst (v := 4) hx hb d_TT_word_5 (by decide) ?_
  refine lv_icmp_eq (tgt := 11) hx hb d_TT_word_6 (by decide) (fun c_6 => ?_) (fun c_6 => ?_)
  · skip
    refine lv_aload_n hx hb d_TT_word_11 rfl (lv_at hl 0 rfl) ?_
    refine va_get (D := D) (ci := 0) (v := .ref (ad 0)) (C := R_TT) (T := F_TT) (N := 4) hx hb htT i_TT hown hK hP 0 rfl rfl 1 (by decide) (htT _ k_153) (fun _ h9 => h9) rfl d_TT_word_12 ?_
    refine va_get (D := D) (ci := 5) (v := .ref (ad 1)) (C := R_TM) (T := F_TM) (N := 10) hx hb htT i_TM hown hK hP 1 rfl rfl 0 (by decide) (htT _ k_58) (fun _ h9 => h9) rfl d_TT_word_15 ?_
    refine lv_aload_n hx hb d_TT_word_18 rfl (lv_at hl 0 rfl) ?_
    refine lv_iload_n hx hb d_TT_word_19 rfl (lv_at hl 1 rfl) ?_
    refine tt_roI (va_runV (As := [.int (nI k)]) (rest := [.ref (ad 1)]) ⟨hx, hb, hml, hown, hts⟩ (c_TT_begins l D cI cB cL ad r n (nI k)) (cwV 1 hts (tt_gV k_432 k_433 k_434 k_1 k_435) rfl rfl rfl hv_TT_begins ⟨Nat.le_of_ble_eq_true rfl, Nat.le_of_ble_eq_true rfl⟩) (tt_ropreV (w := [(ad 13, .inr (0, [.ref (ad 14), .ref (ad 0), .ref (ad 11), .ref (ad 16)])), (ad 0, .inr (5, [.ref (ad 1), .ref (ad 3), .ref (ad 4), .ref (ad 5), .ref (ad 6), .ref (ad 7), .ref (ad 8), .ref (ad 9), .ref (ad 10), .int (nI n)])), (ad 3, .inl (cI, 4096, .inl (r 0))), (ad 4, .inl (cI, 4096, .inl (r 1))), (ad 5, .inl (cI, 4096, .inl (r 2))), (ad 6, .inl (cI, 4096, .inl (r 3))), (ad 7, .inl (cI, 4096, .inl (r 4))), (ad 8, .inl (cI, 4096, .inl (r 5))), (ad 9, .inl (cI, 4096, .inl (r 6))), (ad 10, .inl (cI, 4096, .inl (r 7)))]) hK hP [0, 1, 2, 3, 4, 5, 6, 7, 8, 9] rfl (va_recv hK hP (ci := 0) (q0 := 0) rfl rfl)) rfl rfl hl.1 rfl (lv_room (Nat.le_of_ble_eq_true rfl)) d_TT_word_20 ⟨Nat.zero_le _, Nat.zero_le _⟩) hS hP (fun H locs hP hS => ?_)
    refine tt_ti (show tt_in (r 4) n (nI k) = nI x from by rw [tt_in_at hk hm]; exact h4) ?_
    refine lv_aload_n hx hb d_TT_word_23 rfl (lv_at hl 0 rfl) ?_
    refine lv_iload_n hx hb d_TT_word_24 rfl (lv_at hl 1 rfl) ?_
    refine tt_roI (va_runV (As := [.int (nI k)]) (rest := [.int (nI x), .ref (ad 1)]) ⟨hx, hb, hml, hown, hts⟩ (c_TT_ends l D cI cB cL ad r n (nI k)) (cwV 1 hts (tt_gV k_436 k_437 k_438 k_1 k_439) rfl rfl rfl hv_TT_ends ⟨Nat.le_of_ble_eq_true rfl, Nat.le_of_ble_eq_true rfl⟩) (tt_ropreV (w := [(ad 13, .inr (0, [.ref (ad 14), .ref (ad 0), .ref (ad 11), .ref (ad 16)])), (ad 0, .inr (5, [.ref (ad 1), .ref (ad 3), .ref (ad 4), .ref (ad 5), .ref (ad 6), .ref (ad 7), .ref (ad 8), .ref (ad 9), .ref (ad 10), .int (nI n)])), (ad 3, .inl (cI, 4096, .inl (r 0))), (ad 4, .inl (cI, 4096, .inl (r 1))), (ad 5, .inl (cI, 4096, .inl (r 2))), (ad 6, .inl (cI, 4096, .inl (r 3))), (ad 7, .inl (cI, 4096, .inl (r 4))), (ad 8, .inl (cI, 4096, .inl (r 5))), (ad 9, .inl (cI, 4096, .inl (r 6))), (ad 10, .inl (cI, 4096, .inl (r 7)))]) hK hP [0, 1, 2, 3, 4, 5, 6, 7, 8, 9] rfl (va_recv hK hP (ci := 0) (q0 := 0) rfl rfl)) rfl rfl hl.1 rfl (lv_room (Nat.le_of_ble_eq_true rfl)) d_TT_word_25 ⟨Nat.zero_le _, Nat.zero_le _⟩) hS hP (fun H locs hP hS => ?_)
    refine tt_ti (show tt_in (r 5) n (nI k) = nI y from by rw [tt_in_at hk hm]; exact h5) ?_
    refine tt_roI (va_runS (As := [.ref (ad 1), .int (nI x), .int (nI y)]) (rest := []) ⟨hx, hb, hml, hown, hts⟩ (c_KW_numberOf l D cI cB cL adK adV (ad 1) (ad 2) f tn x y (by omega) (by omega)) (va_cwS 3 hts (tt_gS2 k_440 k_441 k_21 k_442) rfl rfl rfl hv_KW_numberOf.2 ⟨Nat.le_of_ble_eq_true rfl, Nat.le_of_ble_eq_true rfl⟩) (tt_xpreS (w := [(ad 1, .inr (1, [.ref (ad 2), .int (nI tn)])), (ad 2, .inl (cB, 16384, .inl f))]) tt_X.call hK hP [10, 11] rfl (fun U hU hW => hX.use hS hU hW (fun _ h9 => h9.elim))) rfl rfl hl.1 rfl (lv_room (Nat.le_of_ble_eq_true rfl)) d_TT_word_28 ⟨Nat.zero_le _, Nat.zero_le _⟩) hS hP (fun H locs hP hS => ?_)
    have o_r : (tt_kn f tn x y 0 0 0 0) = (tt_kn f tn x y 0 0 0 0) := rfl
    exact W.iret (v := tt_kn f tn x y 0 0 0 0) hx hb hr (fun t ht hW => ⟨⟨_, (), rfl, o_r, trivial⟩, hS.F ht⟩) hS.2.2 d_TT_word_31
  · exact absurd c_6 (by decide)
abbrev rm_TT_wordo : Room := { frames := 2, cells := 0, slots := 0, locals := 43 }
abbrev q_TT_wordo (D : va_G) (cI cB cL : ClassId) (adK adV : Nat → Nat) (ad : Nat → Nat) (r : Nat → Nat → Int32) (n : Nat) (f : Nat → Int32) (tn : Nat) (u : Nat) (L : Nat → Nat) (x : Int32) : Array Value → State → Outcome → State → Prop := va_Qi (fun r9 (_ : Unit) => r9 = (-1)) (fun _ _ => True) (fun _ => False)
set_option maxHeartbeats 4000000 in
set_option maxRecDepth 100000 in
theorem c_TT_wordo (l : Launch) (D : va_G) (cI cB cL : ClassId) (adK adV : Nat → Nat) (ad : Nat → Nat) (r : Nat → Nat → Int32) (n : Nat) (f : Nat → Int32) (tn : Nat) (u : Nat) (L : Nat → Nat) (x : Int32) (hm : n ≤ 4096) (ho : ¬ tt_in (r 0) n x = 4) : Met l y_TT_word w_TT_word rm_TT_wordo (va_Pc [.ref (ad 13), .int x] (fun U => va_P D vwCl [(ad 13, .inr (0, [.ref (ad 14), .ref (ad 0), .ref (ad 11), .ref (ad 16)])), (ad 0, .inr (5, [.ref (ad 1), .ref (ad 3), .ref (ad 4), .ref (ad 5), .ref (ad 6), .ref (ad 7), .ref (ad 8), .ref (ad 9), .ref (ad 10), .int (nI n)])), (ad 3, .inl (cI, 4096, .inl (r 0))), (ad 4, .inl (cI, 4096, .inl (r 1))), (ad 5, .inl (cI, 4096, .inl (r 2))), (ad 6, .inl (cI, 4096, .inl (r 3))), (ad 7, .inl (cI, 4096, .inl (r 4))), (ad 8, .inl (cI, 4096, .inl (r 5))), (ad 9, .inl (cI, 4096, .inl (r 6))), (ad 10, .inl (cI, 4096, .inl (r 7))), (ad 1, .inr (1, [.ref (ad 2), .int (nI tn)])), (ad 2, .inl (cB, 16384, .inl f)), (ad 16, .inr (2, [.ref (ad 17), .int (nI u)])), (ad 17, .inl (cI, 32, .inl (tt_nf L)))] U.heap ∧ va_K D vwCl (tt_ty cI cB cL) U ∧ tt_X adK adV (fun _ => False) U U.heap)) (q_TT_wordo D cI cB cL adK adV ad r n f tn u L x) 0 0 (fun _ => False) := by
  refine Met.ofW (cc := b_TT_word) (maxL := 2) (ret := (some .int)) (by decide) rfl ?_
  intro p e s m args below meth c s₁ B hml hv
  obtain ⟨rfl, hP, hK, hX⟩ := hv
  have hx := B.exec
  have hb := B.bytes
  have hr := B.returns
  have hts := atoms_spec (ws := w_TT_word) B.pre
  have htT : ∀ w ∈ tt_T, w.before _ s = true := fun w h => hts w (List.mem_cons_of_mem _ h)
  have hown : s.vm.findClass R_TT = some m.cls := findClass_of_methodNamed B.named
  have hlocks := B.notSynchronized
  have hS : va_S (fun _ => False) s.heap s.heap [] := va_S.rf
  have hl := lv_entry ([.ref (ad 13), .int x]) (n := 2) (Nat.le_of_ble_eq_true rfl)
  rw [lg_entry_eq]
  generalize (lg_sl ([.ref (ad 13), .int x]) ++ List.replicate (2 - (lg_sl ([.ref (ad 13), .int x])).length) Slot.unset).toArray = ls at hl ⊢
  have hl : lv_has ls 2 [(0, .ref (ad 13)), (1, .int x)] := hl
  have hP : va_P D vwCl [(ad 13, .inr (0, [.ref (ad 14), .ref (ad 0), .ref (ad 11), .ref (ad 16)])), (ad 0, .inr (5, [.ref (ad 1), .ref (ad 3), .ref (ad 4), .ref (ad 5), .ref (ad 6), .ref (ad 7), .ref (ad 8), .ref (ad 9), .ref (ad 10), .int (nI n)])), (ad 3, .inl (cI, 4096, .inl (r 0))), (ad 4, .inl (cI, 4096, .inl (r 1))), (ad 5, .inl (cI, 4096, .inl (r 2))), (ad 6, .inl (cI, 4096, .inl (r 3))), (ad 7, .inl (cI, 4096, .inl (r 4))), (ad 8, .inl (cI, 4096, .inl (r 5))), (ad 9, .inl (cI, 4096, .inl (r 6))), (ad 10, .inl (cI, 4096, .inl (r 7))), (ad 1, .inr (1, [.ref (ad 2), .int (nI tn)])), (ad 2, .inl (cB, 16384, .inl f)), (ad 16, .inr (2, [.ref (ad 17), .int (nI u)])), (ad 17, .inl (cI, 32, .inl (tt_nf L)))] s.heap := hP
  refine lv_aload_n hx hb d_TT_word_0 rfl (lv_at hl 0 rfl) ?_
  refine lv_iload_n hx hb d_TT_word_1 rfl (lv_at hl 1 rfl) ?_
  refine tt_roI (va_runV (As := [.int x]) (rest := []) ⟨hx, hb, hml, hown, hts⟩ (c_TT_kind l D cI cB cL ad r n x) (cwV 1 hts (tt_gV k_431 k_402 k_403 k_1 k_404) rfl rfl rfl hv_TT_kind ⟨Nat.le_of_ble_eq_true rfl, Nat.le_of_ble_eq_true rfl⟩) (tt_ropreV (w := [(ad 13, .inr (0, [.ref (ad 14), .ref (ad 0), .ref (ad 11), .ref (ad 16)])), (ad 0, .inr (5, [.ref (ad 1), .ref (ad 3), .ref (ad 4), .ref (ad 5), .ref (ad 6), .ref (ad 7), .ref (ad 8), .ref (ad 9), .ref (ad 10), .int (nI n)])), (ad 3, .inl (cI, 4096, .inl (r 0))), (ad 4, .inl (cI, 4096, .inl (r 1))), (ad 5, .inl (cI, 4096, .inl (r 2))), (ad 6, .inl (cI, 4096, .inl (r 3))), (ad 7, .inl (cI, 4096, .inl (r 4))), (ad 8, .inl (cI, 4096, .inl (r 5))), (ad 9, .inl (cI, 4096, .inl (r 6))), (ad 10, .inl (cI, 4096, .inl (r 7)))]) hK hP [0, 1, 2, 3, 4, 5, 6, 7, 8, 9] rfl (va_recv hK hP (ci := 0) (q0 := 0) rfl rfl)) rfl rfl hl.1 rfl (lv_room (Nat.le_of_ble_eq_true rfl)) d_TT_word_2 ⟨Nat.zero_le _, Nat.zero_le _⟩) hS hP (fun H locs hP hS => ?_)
  refine lv_iconst (v := 4) hx hb d_TT_word_5 (by decide) ?_
  refine lv_icmp_eq (tgt := 11) hx hb d_TT_word_6 (by decide) (fun c_6 => ?_) (fun c_6 => ?_)
  · exact absurd c_6 ho
  · skip
    refine lv_iconst (v := (-1)) hx hb d_TT_word_9 (by decide) ?_
    have o_r : ((-1) : Int32) = (-1) := rfl
    exact W.iret (v := (-1)) hx hb hr (fun t ht hW => ⟨⟨_, (), rfl, o_r, trivial⟩, hS.F ht⟩) hS.2.2 d_TT_word_10
