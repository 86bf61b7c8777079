abbrev rm_MG_multiplyAndAdd : Room := { frames := 0, cells := 0, slots := 0, locals := 0 }
abbrev q_MG_multiplyAndAdd (D : va_G) (cI cB cL : ClassId) (o lb : Nat) (L : Nat → Nat) (u : Nat) (a b : Nat) (A : Nat → Prop) : Array Value → State → Outcome → State → Prop := va_Qv (fun _ => True) (fun (_ : Unit) t => va_P D vwCl [(o, .inr (2, [.ref lb, .int (nI ((tt_ma (L, u) a b).2))])), (lb, .inl (cI, 32, .inl (tt_nf ((tt_ma (L, u) a b).1))))] t.heap ∧ va_D A [(o, .inr (2, [.ref lb, .int (nI ((tt_ma (L, u) a b).2))])), (lb, .inl (cI, 32, .inl (tt_nf ((tt_ma (L, u) a b).1))))]) A
set_option maxHeartbeats 4000000 in
set_option maxRecDepth 100000 in
theorem c_MG_multiplyAndAdd (l : Launch) (D : va_G) (cI cB cL : ClassId) (o lb : Nat) (L : Nat → Nat) (u : Nat) (a b : Nat) (hu : u ≤ 32) (hL : ∀ k, k < u → L k < 4294967296) (ha : a ≤ 1000000000) (hb0 : b < 4294967296) (sz : Nat) : Met l y_MG_multiplyAndAdd w_MG_multiplyAndAdd rm_MG_multiplyAndAdd (va_Pc [.ref o, .long (lN a), .long (lN b)] (fun U => U.heap.size = sz ∧ va_P D vwCl [(o, .inr (2, [.ref lb, .int (nI u)])), (lb, .inl (cI, 32, .inl (tt_nf L)))] U.heap ∧ va_K D vwCl (tt_ty cI cB cL) U ∧ va_D (fun _ => True) [(o, .inr (2, [.ref lb, .int (nI u)])), (lb, .inl (cI, 32, .inl (tt_nf L)))])) (q_MG_multiplyAndAdd D cI cB cL o lb L u a b (va_A [(o, .inr (2, [.ref lb, .int (nI u)])), (lb, .inl (cI, 32, .inl (tt_nf L)))] sz)) 0 0 (va_A [(o, .inr (2, [.ref lb, .int (nI u)])), (lb, .inl (cI, 32, .inl (tt_nf L)))] sz) := by
  refine Met.ofW (cc := b_MG_multiplyAndAdd) (maxL := 10) (ret := none) (by decide) rfl ?_
  intro p e s m args below meth c s₁ B hml hv
  obtain ⟨rfl, hsz, hP, hK, hD0⟩ := hv
  have hx := B.exec
  have hb := B.bytes
  have hr := B.returns
  have hts := atoms_spec (ws := w_MG_multiplyAndAdd) B.pre
  have htT : ∀ w ∈ tt_T, w.before _ s = true := fun w h => hts w (List.mem_cons_of_mem _ h)
  have hown : s.vm.findClass R_MG = some m.cls := findClass_of_methodNamed B.named
  have hlocks := B.notSynchronized
  subst hsz
  have hD := hD0.self (sz := s.heap.size)
  generalize hAe : va_A [(o, .inr (2, [.ref lb, .int (nI u)])), (lb, .inl (cI, 32, .inl (tt_nf L)))] s.heap.size = A at hD ⊢
  have hA : ∀ q : Nat, s.heap.size ≤ q → A q := fun q h => by rw [← hAe]; exact Or.inr h
  have hS : va_S A s.heap s.heap [] := va_S.rf
  have hl := lv_entry ([.ref o, .long (lN a), .long (lN b)]) (n := 10) (Nat.le_of_ble_eq_true rfl)
  rw [lg_entry_eq]
  generalize (lg_sl ([.ref o, .long (lN a), .long (lN b)]) ++ List.replicate (10 - (lg_sl ([.ref o, .long (lN a), .long (lN b)])).length) Slot.unset).toArray = ls at hl ⊢
  have hl : lv_has ls 10 [(0, .ref o), (1, .long (lN a)), (3, .long (lN b))] := hl
  have hP : va_P D vwCl [(o, .inr (2, [.ref lb, .int (nI u)])), (lb, .inl (cI, 32, .inl (tt_nf L)))] s.heap := hP
  refine lv_lload_n hx hb d_MG_multiplyAndAdd_0 rfl (lv_at hl 2 rfl) ?_
  refine lv_lstore (lv' := [(5, .long (lN b)), (0, .ref o), (1, .long (lN a)), (3, .long (lN b))]) hx hb d_MG_multiplyAndAdd_1 hl (by decide) rfl (fun ls hl => ?_)
  refine lv_iconst (v := 0) hx hb d_MG_multiplyAndAdd_3 (by decide) ?_
  refine lv_istore (lv' := [(7, .int 0), (5, .long (lN b)), (0, .ref o), (1, .long (lN a)), (3, .long (lN b))]) hx hb d_MG_multiplyAndAdd_4 hl (by decide) rfl (fun ls hl => ?_)
  have hl : lv_has ls 10 [(7, .int 0), (5, .long (lN (tt_mc L a b 0))), (0, .ref o), (1, .long (lN a)), (3, .long (lN b))] := hl
  have hP : va_P D vwCl [(o, .inr (2, [.ref lb, .int (nI u)])), (lb, .inl (cI, 32, .inl (tt_nf (tt_mi L a b 0))))] s.heap := by rw [tt_mi_0]; exact hP
  have hD : va_D A [(o, .inr (2, [.ref lb, .int (nI u)])), (lb, .inl (cI, 32, .inl (tt_nf (tt_mi L a b 0))))] := by rw [tt_mi_0]; exact hD
  have cut_6 : ∀ (k9 : Nat) (q : Nat) (_ : u - q < k9) (hq : q ≤ u) (hmc : tt_mc L a b q < 4294967296) (H : Heap) (locs : List Loc), va_P D vwCl [(o, .inr (2, [.ref lb, .int (nI u)])), (lb, .inl (cI, 32, .inl (tt_nf (tt_mi L a b q))))] H → va_D A [(o, .inr (2, [.ref lb, .int (nI u)])), (lb, .inl (cI, 32, .inl (tt_nf (tt_mi L a b q))))] → va_S A s.heap H locs → ∀ ls : Array Slot, lv_has ls 10 [(0, .ref o), (1, .long (lN a)), (7, .int (nI q)), (5, .long (lN (tt_mc L a b q)))] → W p l e (headSpec w_MG_multiplyAndAdd rm_MG_multiplyAndAdd).room s m ([.ref o, .long (lN a), .long (lN b)] : List Value).toArray below meth c H locs 0 0 (MQ below (q_MG_multiplyAndAdd D cI cB cL o lb L u a b A) ([.ref o, .long (lN a), .long (lN b)] : List Value).toArray s 0 0 A) (F0 m 6 ls []) := by
    intro k9
    induction k9 with
    | zero => intro q h9; exact absurd h9 (Nat.not_lt_zero _)
    | succ k9 ih_6 =>
      intro q h9 hq hmc H locs hP hD hS ls hl
      refine lv_iload hx hb d_MG_multiplyAndAdd_6 (lv_at hl 2 rfl) ?_
      refine lv_aload_n hx hb d_MG_multiplyAndAdd_8 rfl (lv_at hl 0 rfl) ?_
      refine va_get (D := D) (ci := 2) (v := .int (nI u)) (C := R_MG) (T := F_MG) (N := 2) hx hb htT i_MG hown hK hP 0 rfl rfl 1 (by decide) (htT _ k_146) (fun _ h9 => h9) rfl d_MG_multiplyAndAdd_9 ?_
      refine lv_icmp_ge (tgt := 57) hx hb d_MG_multiplyAndAdd_12 (by decide) (fun c_12 => ?_) (fun c_12 => ?_)
      · have c_12 : u ≤ q := (nI_leI (a := u) (b := q) (by omega) (by omega)).mp c_12
        have hqu : q = u := by omega
        rw [hqu] at hmc
        rw [hqu] at hl hP hD
        have hl : lv_has ls 10 [(0, .ref o), (1, .long (lN a)), (7, .int (nI u)), (5, .long (lN (tt_mc L a b u)))] := hl
        have hP : va_P D vwCl [(o, .inr (2, [.ref lb, .int (nI u)])), (lb, .inl (cI, 32, .inl (tt_nf (tt_mi L a b u))))] H := hP
        have hD : va_D A [(o, .inr (2, [.ref lb, .int (nI u)])), (lb, .inl (cI, 32, .inl (tt_nf (tt_mi L a b u))))] := hD
        refine lv_lload hx hb d_MG_multiplyAndAdd_57 (lv_at hl 3 rfl) ?_
        refine lv_lconst (v := lN 0) hx hb d_MG_multiplyAndAdd_59 (by decide) ?_
        refine W.lcmp hx hb d_MG_multiplyAndAdd_60 ?_
        refine lv_if_eq (tgt := 98) hx hb d_MG_multiplyAndAdd_61 (by decide) (fun c_61 => ?_) (fun c_61 => ?_)
        · have c_61 : (tt_mc L a b u) = 0 := (pk_lEQ (a := (tt_mc L a b u)) (b := 0) (by omega) (by omega)).mp ((lg_cmp_eq _ _).mp c_61)
          have o_u2 : ((tt_ma (L, u) a b).2 : Nat) = u := by simp [tt_ma, c_12, Nat.not_lt.mpr c_12, eq_true c_61]
          have o_L2 : ((tt_ma (L, u) a b).1) = (tt_mi L a b u) := by simp [tt_ma, c_12, Nat.not_lt.mpr c_12, eq_true c_61]
          have hP9 : va_P D vwCl [(o, .inr (2, [.ref lb, .int (nI u)])), (lb, .inl (cI, 32, .inl (tt_nf (tt_mi L a b u))))] H := hP.sub [0, 1] rfl
          have hD9 : va_D A [(o, .inr (2, [.ref lb, .int (nI u)])), (lb, .inl (cI, 32, .inl (tt_nf (tt_mi L a b u))))] := hD.sub [0, 1] (by decide) rfl
          have hP9 : va_P D vwCl [(o, .inr (2, [.ref lb, .int (nI ((tt_ma (L, u) a b).2))])), (lb, .inl (cI, 32, .inl (tt_nf ((tt_ma (L, u) a b).1))))] H := by rw [o_u2, o_L2]; exact hP9
          have hD9 : va_D A [(o, .inr (2, [.ref lb, .int (nI ((tt_ma (L, u) a b).2))])), (lb, .inl (cI, 32, .inl (tt_nf ((tt_ma (L, u) a b).1))))] := by rw [o_u2, o_L2]; exact hD9
          exact W.vret hx hb hr (fun t ht hW => ⟨⟨(), rfl, trivial, by rw [ht]; exact hP9, hD9⟩, hS.F ht⟩) hS.2.2 d_MG_multiplyAndAdd_98
        · have c_61 : ¬ (tt_mc L a b u) = 0 := fun z9 => c_61 ((lg_cmp_eq _ _).mpr ((pk_lEQ (a := (tt_mc L a b u)) (b := 0) (by omega) (by omega)).mpr z9))
          refine lv_aload_n hx hb d_MG_multiplyAndAdd_64 rfl (lv_at hl 0 rfl) ?_
          refine va_get (D := D) (ci := 2) (v := .int (nI u)) (C := R_MG) (T := F_MG) (N := 2) hx hb htT i_MG hown hK hP 0 rfl rfl 1 (by decide) (htT _ k_146) (fun _ h9 => h9) rfl d_MG_multiplyAndAdd_65 ?_
          refine lv_aload_n hx hb d_MG_multiplyAndAdd_68 rfl (lv_at hl 0 rfl) ?_
          refine va_get (D := D) (ci := 2) (v := .ref lb) (C := R_MG) (T := F_MG) (N := 2) hx hb htT i_MG hown hK hP 0 rfl rfl 0 (by decide) (htT _ k_145) (fun _ h9 => h9) rfl d_MG_multiplyAndAdd_69 ?_
          refine va_alen (D := D) (v := nI 32) hx hb hK hP 1 0 rfl rfl rfl d_MG_multiplyAndAdd_72 ?_
          refine lv_icmp_ge (tgt := 98) hx hb d_MG_multiplyAndAdd_73 (by decide) (fun c_73 => ?_) (fun c_73 => ?_)
          · have c_73 : 32 ≤ u := (nI_leI (a := 32) (b := u) (by omega) (by omega)).mp c_73
            have o_u2 : ((tt_ma (L, u) a b).2 : Nat) = u := by simp [tt_ma, c_12, Nat.not_lt.mpr c_12, c_61, c_73, Nat.not_lt.mpr c_73]
            have o_L2 : ((tt_ma (L, u) a b).1) = (tt_mi L a b u) := by simp [tt_ma, c_12, Nat.not_lt.mpr c_12, c_61, c_73, Nat.not_lt.mpr c_73]
            have hP9 : va_P D vwCl [(o, .inr (2, [.ref lb, .int (nI u)])), (lb, .inl (cI, 32, .inl (tt_nf (tt_mi L a b u))))] H := hP.sub [0, 1] rfl
            have hD9 : va_D A [(o, .inr (2, [.ref lb, .int (nI u)])), (lb, .inl (cI, 32, .inl (tt_nf (tt_mi L a b u))))] := hD.sub [0, 1] (by decide) rfl
            have hP9 : va_P D vwCl [(o, .inr (2, [.ref lb, .int (nI ((tt_ma (L, u) a b).2))])), (lb, .inl (cI, 32, .inl (tt_nf ((tt_ma (L, u) a b).1))))] H := by rw [o_u2, o_L2]; exact hP9
            have hD9 : va_D A [(o, .inr (2, [.ref lb, .int (nI ((tt_ma (L, u) a b).2))])), (lb, .inl (cI, 32, .inl (tt_nf ((tt_ma (L, u) a b).1))))] := by rw [o_u2, o_L2]; exact hD9
            exact W.vret hx hb hr (fun t ht hW => ⟨⟨(), rfl, trivial, by rw [ht]; exact hP9, hD9⟩, hS.F ht⟩) hS.2.2 d_MG_multiplyAndAdd_98
          · have c_73 : ¬ 32 ≤ u := fun z9 => c_73 ((nI_leI (a := 32) (b := u) (by omega) (by omega)).mpr z9)
            have c_73 := Nat.not_le.mp c_73
            refine lv_aload_n hx hb d_MG_multiplyAndAdd_76 rfl (lv_at hl 0 rfl) ?_
            refine va_get (D := D) (ci := 2) (v := .ref lb) (C := R_MG) (T := F_MG) (N := 2) hx hb htT i_MG hown hK hP 0 rfl rfl 0 (by decide) (htT _ k_145) (fun _ h9 => h9) rfl d_MG_multiplyAndAdd_77 ?_
            refine lv_aload_n hx hb d_MG_multiplyAndAdd_80 rfl (lv_at hl 0 rfl) ?_
            refine va_get (D := D) (ci := 2) (v := .int (nI u)) (C := R_MG) (T := F_MG) (N := 2) hx hb htT i_MG hown hK hP 0 rfl rfl 1 (by decide) (htT _ k_146) (fun _ h9 => h9) rfl d_MG_multiplyAndAdd_81 ?_
            refine lv_lload hx hb d_MG_multiplyAndAdd_84 (lv_at hl 3 rfl) ?_
            refine lv_l2i (v := nI (tt_mc L a b u)) hx hb d_MG_multiplyAndAdd_86 (lN_i _) ?_
            refine va_iast (D := D) hx hb hK hP hD hS 1 0 rfl rfl (vp_in_nI (by omega) (by omega)) d_MG_multiplyAndAdd_87 (fun H locs hP hD hS => ?_)
            rw [nI_clamp (show u < 2 ^ 31 by omega)] at hP hD
            have hP : va_P D vwCl [(o, .inr (2, [.ref lb, .int (nI u)])), (lb, .inl (cI, 32, .inl (upd (tt_nf (tt_mi L a b u)) u (nI (tt_mc L a b u)))))] H := hP
            have hD : va_D A [(o, .inr (2, [.ref lb, .int (nI u)])), (lb, .inl (cI, 32, .inl (upd (tt_nf (tt_mi L a b u)) u (nI (tt_mc L a b u)))))] := hD
            rw [tt_updN] at hP hD
            have hP : va_P D vwCl [(o, .inr (2, [.ref lb, .int (nI u)])), (lb, .inl (cI, 32, .inl (tt_nf (tm_put (tt_mi L a b u) u (tt_mc L a b u)))))] H := hP
            have hD : va_D A [(o, .inr (2, [.ref lb, .int (nI u)])), (lb, .inl (cI, 32, .inl (tt_nf (tm_put (tt_mi L a b u) u (tt_mc L a b u)))))] := hD
            refine lv_aload_n hx hb d_MG_multiplyAndAdd_88 rfl (lv_at hl 0 rfl) ?_
            refine lv_dup hx hb d_MG_multiplyAndAdd_89 rfl ?_
            refine va_get (D := D) (ci := 2) (v := .int (nI u)) (C := R_MG) (T := F_MG) (N := 2) hx hb htT i_MG hown hK hP 0 rfl rfl 1 (by decide) (htT _ k_146) (fun _ h9 => h9) rfl d_MG_multiplyAndAdd_90 ?_
            refine lv_iconst (v := 1) hx hb d_MG_multiplyAndAdd_93 (by decide) ?_
            refine lv_iadd hx hb d_MG_multiplyAndAdd_94 ?_
            refine tt_ti (show (nI u) + 1 = nI (u + 1) from nI_add u 1) ?_
            refine va_put (D := D) (ci := 2) (v := .int (nI (u + 1))) (ty := .int) (C := R_MG) (T := F_MG) (N := 2) hx hb htT i_MG t_MG t_MG_ok n_MG hown hK hP hD hS 0 rfl rfl 1 (by decide) (htT _ k_146) (fun _ h9 => h9) rfl (by decide +kernel) rfl rfl (Nat.le_of_ble_eq_true rfl) d_MG_multiplyAndAdd_95 (fun H locs hP hD hS => ?_)
            have hP : va_P D vwCl [(o, .inr (2, [.ref lb, .int (nI (u + 1))])), (lb, .inl (cI, 32, .inl (tt_nf (tm_put (tt_mi L a b u) u (tt_mc L a b u)))))] H := hP
            have hD : va_D A [(o, .inr (2, [.ref lb, .int (nI (u + 1))])), (lb, .inl (cI, 32, .inl (tt_nf (tm_put (tt_mi L a b u) u (tt_mc L a b u)))))] := hD
            have o_u2 : ((tt_ma (L, u) a b).2 : Nat) = (u + 1) := by simp [tt_ma, c_12, Nat.not_lt.mpr c_12, c_61, c_73, Nat.not_le.mpr c_73]
            have o_L2 : ((tt_ma (L, u) a b).1) = (tm_put (tt_mi L a b u) u (tt_mc L a b u)) := by simp [tt_ma, c_12, Nat.not_lt.mpr c_12, c_61, c_73, Nat.not_le.mpr c_73]
            have hP9 : va_P D vwCl [(o, .inr (2, [.ref lb, .int (nI (u + 1))])), (lb, .inl (cI, 32, .inl (tt_nf (tm_put (tt_mi L a b u) u (tt_mc L a b u)))))] H := hP.sub [0, 1] rfl
            have hD9 : va_D A [(o, .inr (2, [.ref lb, .int (nI (u + 1))])), (lb, .inl (cI, 32, .inl (tt_nf (tm_put (tt_mi L a b u) u (tt_mc L a b u)))))] := hD.sub [0, 1] (by decide) rfl
            have hP9 : va_P D vwCl [(o, .inr (2, [.ref lb, .int (nI ((tt_ma (L, u) a b).2))])), (lb, .inl (cI, 32, .inl (tt_nf ((tt_ma (L, u) a b).1))))] H := by rw [o_u2, o_L2]; exact hP9
            have hD9 : va_D A [(o, .inr (2, [.ref lb, .int (nI ((tt_ma (L, u) a b).2))])), (lb, .inl (cI, 32, .inl (tt_nf ((tt_ma (L, u) a b).1))))] := by rw [o_u2, o_L2]; exact hD9
            exact W.vret hx hb hr (fun t ht hW => ⟨⟨(), rfl, trivial, by rw [ht]; exact hP9, hD9⟩, hS.F ht⟩) hS.2.2 d_MG_multiplyAndAdd_98
      · have c_12 : ¬ u ≤ q := fun z9 => c_12 ((nI_leI (a := u) (b := q) (by omega) (by omega)).mpr z9)
        have c_12 := Nat.not_le.mp c_12
        have hLq : L q < 4294967295 + 1 := hL q c_12
        refine lv_aload_n hx hb d_MG_multiplyAndAdd_15 rfl (lv_at hl 0 rfl) ?_
        refine va_get (D := D) (ci := 2) (v := .ref lb) (C := R_MG) (T := F_MG) (N := 2) hx hb htT i_MG hown hK hP 0 rfl rfl 0 (by decide) (htT _ k_145) (fun _ h9 => h9) rfl d_MG_multiplyAndAdd_16 ?_
        refine lv_iload hx hb d_MG_multiplyAndAdd_19 (lv_at hl 2 rfl) ?_
        refine va_iald (D := D) hx hb hK hP 1 0 rfl rfl (vp_in_nI (by omega) (by omega)) d_MG_multiplyAndAdd_21 ?_
        refine tt_ti (show (tt_nf (tt_mi L a b q)) (nI q).toNatClampNeg = (tt_nf (tt_mi L a b q)) q from by rw [nI_clamp (by omega)]) ?_
        refine tt_ti (show (tt_nf (tt_mi L a b q)) q = nI (L q) from show nI (tt_mi L a b q q) = nI (L q) from by rw [tt_mi_at]) ?_
        refine lv_i2l (v := (nI (L q)).toInt64) hx hb d_MG_multiplyAndAdd_22 (rfl) ?_
        refine lv_ldc2 (v := lN 4294967295) hx hb hown (htT _ k_490) d_MG_multiplyAndAdd_23 ?_
        refine lv_land hx hb d_MG_multiplyAndAdd_26 ?_
        refine tt_tl (show ((nI (L q)).toInt64) &&& (lN 4294967295) = lN (L q) from tt_low hLq) ?_
        refine lv_lload_n hx hb d_MG_multiplyAndAdd_27 rfl (lv_at hl 1 rfl) ?_
        refine lv_lmul hx hb d_MG_multiplyAndAdd_28 ?_
        refine tt_tl (show (lN (L q)) * (lN a) = lN ((L q) * a) from lN_mul (L q) a) ?_
        refine lv_lload hx hb d_MG_multiplyAndAdd_29 (lv_at hl 3 rfl) ?_
        refine lv_ladd hx hb d_MG_multiplyAndAdd_31 ?_
        refine tt_tl (show (lN ((L q) * a)) + (lN (tt_mc L a b q)) = lN (((L q) * a) + (tt_mc L a b q)) from lN_add ((L q) * a) (tt_mc L a b q)) ?_
        refine lv_lstore (lv' := [(8, .long (lN (((L q) * a) + (tt_mc L a b q)))), (0, .ref o), (1, .long (lN a)), (7, .int (nI q)), (5, .long (lN (tt_mc L a b q)))]) hx hb d_MG_multiplyAndAdd_32 hl (by decide) rfl (fun ls hl => ?_)
        refine lv_aload_n hx hb d_MG_multiplyAndAdd_34 rfl (lv_at hl 1 rfl) ?_
        refine va_get (D := D) (ci := 2) (v := .ref lb) (C := R_MG) (T := F_MG) (N := 2) hx hb htT i_MG hown hK hP 0 rfl rfl 0 (by decide) (htT _ k_145) (fun _ h9 => h9) rfl d_MG_multiplyAndAdd_35 ?_
        refine lv_iload hx hb d_MG_multiplyAndAdd_38 (lv_at hl 3 rfl) ?_
        refine lv_lload hx hb d_MG_multiplyAndAdd_40 (lv_at hl 0 rfl) ?_
        refine lv_l2i (v := nI ((L q * a + tt_mc L a b q) % 4294967296)) hx hb d_MG_multiplyAndAdd_42 (by rw [lN_i]; exact tt_nIm _) ?_
        refine va_iast (D := D) hx hb hK hP hD hS 1 0 rfl rfl (vp_in_nI (by omega) (by omega)) d_MG_multiplyAndAdd_43 (fun H locs hP hD hS => ?_)
        rw [nI_clamp (show q < 2 ^ 31 by omega)] at hP hD
        have hP : va_P D vwCl [(o, .inr (2, [.ref lb, .int (nI u)])), (lb, .inl (cI, 32, .inl (upd (tt_nf (tt_mi L a b q)) q (nI ((L q * a + tt_mc L a b q) % 4294967296)))))] H := hP
        have hD : va_D A [(o, .inr (2, [.ref lb, .int (nI u)])), (lb, .inl (cI, 32, .inl (upd (tt_nf (tt_mi L a b q)) q (nI ((L q * a + tt_mc L a b q) % 4294967296)))))] := hD
        rw [tt_updN, tt_mi_s] at hP hD
        have hP : va_P D vwCl [(o, .inr (2, [.ref lb, .int (nI u)])), (lb, .inl (cI, 32, .inl (tt_nf (tt_mi L a b (q + 1)))))] H := hP
        have hD : va_D A [(o, .inr (2, [.ref lb, .int (nI u)])), (lb, .inl (cI, 32, .inl (tt_nf (tt_mi L a b (q + 1)))))] := hD
        refine lv_lload hx hb d_MG_multiplyAndAdd_44 (lv_at hl 0 rfl) ?_
        refine lv_bipush (v := 32) hx hb d_MG_multiplyAndAdd_46 (by decide) ?_
        refine lv_lushr (v := lN (tt_mc L a b (q + 1))) hx hb d_MG_multiplyAndAdd_48 (tt_hi32 (by have := Nat.mul_le_mul (Nat.le_of_lt_succ hLq) ha; omega)) ?_
        refine lv_lstore (lv' := [(5, .long (lN (tt_mc L a b (q + 1)))), (8, .long (lN (((L q) * a) + (tt_mc L a b q)))), (0, .ref o), (1, .long (lN a)), (7, .int (nI q))]) hx hb d_MG_multiplyAndAdd_49 hl (by decide) rfl (fun ls hl => ?_)
        refine lv_iinc (v := nI (q + 1)) (lv' := [(7, .int (nI (q + 1))), (5, .long (lN (tt_mc L a b (q + 1)))), (8, .long (lN (((L q) * a) + (tt_mc L a b q)))), (0, .ref o), (1, .long (lN a))]) hx hb d_MG_multiplyAndAdd_51 hl (k := 4) rfl (nI_add q 1) (by decide) rfl (fun ls hl => ?_)
        refine lv_goto (tgt := 6) hx hb d_MG_multiplyAndAdd_54 (by decide) ?_
        exact ih_6 (q + 1) (by omega) (by omega) (by exact tt_mc_le hL ha hb0 (q + 1) (by omega)) _ _ (hP.sub (ws' := [(o, .inr (2, [.ref lb, .int (nI u)])), (lb, .inl (cI, 32, .inl (tt_nf (tt_mi L a b (q + 1)))))]) [0, 1] rfl) (hD.sub (ws' := [(o, .inr (2, [.ref lb, .int (nI u)])), (lb, .inl (cI, 32, .inl (tt_nf (tt_mi L a b (q + 1)))))]) [0, 1] (by decide) rfl) hS ls (lv_sub hl [3, 4, 0, 1] rfl)
  exact cut_6 _ 0 (Nat.lt_succ_self _) (by omega) (by exact hb0) _ _ (hP.sub (ws' := [(o, .inr (2, [.ref lb, .int (nI u)])), (lb, .inl (cI, 32, .inl (tt_nf (tt_mi L a b 0))))]) [0, 1] rfl) (hD.sub (ws' := [(o, .inr (2, [.ref lb, .int (nI u)])), (lb, .inl (cI, 32, .inl (tt_nf (tt_mi L a b 0))))]) [0, 1] (by decide) rfl) hS ls (lv_sub hl [2, 3, 0, 1] rfl)
abbrev rm_MG_take : Room := { frames := 2, cells := 0, slots := 0, locals := 44 }
abbrev q_MG_take (D : va_G) (cI cB cL : ClassId) (o lb : Nat) (L : Nat → Nat) (u : Nat) (a r : Nat) (f : Nat → Int32) (n : Nat) (x y : Nat) (A : Nat → Prop) : Array Value → State → Outcome → State → Prop := va_Qv (fun _ => True) (fun (_ : Unit) t => va_P D vwCl [(o, .inr (2, [.ref lb, .int (nI ((tt_tk f n y (tt_fd f n x y) (L, 0) 1 0).2))])), (lb, .inl (cI, 32, .inl (tt_nf ((tt_tk f n y (tt_fd f n x y) (L, 0) 1 0).1)))), (a, .inr (1, [.ref r, .int (nI n)])), (r, .inl (cB, 16384, .inl f))] t.heap ∧ va_D A [(o, .inr (2, [.ref lb, .int (nI ((tt_tk f n y (tt_fd f n x y) (L, 0) 1 0).2))])), (lb, .inl (cI, 32, .inl (tt_nf ((tt_tk f n y (tt_fd f n x y) (L, 0) 1 0).1)))), (a, .inr (1, [.ref r, .int (nI n)])), (r, .inl (cB, 16384, .inl f))]) A
set_option maxHeartbeats 4000000 in
set_option maxRecDepth 100000 in
theorem c_MG_take (l : Launch) (D : va_G) (cI cB cL : ClassId) (o lb : Nat) (L : Nat → Nat) (u : Nat) (a r : Nat) (f : Nat → Int32) (n : Nat) (x y : Nat) (hn : n ≤ 16384) (hxy : x < y) (hy : y ≤ n) (hdd : ∀ k, tm_st0 f n x ≤ k → k < y → tt_dig (tt_ch f n k) = true) (sz : Nat) : Met l y_MG_take w_MG_take rm_MG_take (va_Pc [.ref o, .ref a, .int (nI x), .int (nI y)] (fun U => U.heap.size = sz ∧ va_P D vwCl [(o, .inr (2, [.ref lb, .int (nI u)])), (lb, .inl (cI, 32, .inl (tt_nf L))), (a, .inr (1, [.ref r, .int (nI n)])), (r, .inl (cB, 16384, .inl f))] U.heap ∧ va_K D vwCl (tt_ty cI cB cL) U ∧ va_D (fun _ => True) [(o, .inr (2, [.ref lb, .int (nI u)])), (lb, .inl (cI, 32, .inl (tt_nf L))), (a, .inr (1, [.ref r, .int (nI n)])), (r, .inl (cB, 16384, .inl f))])) (q_MG_take D cI cB cL o lb L u a r f n x y (va_A [(o, .inr (2, [.ref lb, .int (nI u)])), (lb, .inl (cI, 32, .inl (tt_nf L))), (a, .inr (1, [.ref r, .int (nI n)])), (r, .inl (cB, 16384, .inl f))] sz)) 0 0 (va_A [(o, .inr (2, [.ref lb, .int (nI u)])), (lb, .inl (cI, 32, .inl (tt_nf L))), (a, .inr (1, [.ref r, .int (nI n)])), (r, .inl (cB, 16384, .inl f))] sz) := by
  refine Met.ofW (cc := b_MG_take) (maxL := 9) (ret := none) (by decide) rfl ?_
  intro p e s m args below meth c s₁ B hml hv
  obtain ⟨rfl, hsz, hP, hK, hD0⟩ := hv
  have hx := B.exec
  have hb := B.bytes
  have hr := B.returns
  have hts := atoms_spec (ws := w_MG_take) B.pre
  have htT : ∀ w ∈ tt_T, w.before _ s = true := fun w h => hts w (List.mem_cons_of_mem _ h)
  have hown : s.vm.findClass R_MG = some m.cls := findClass_of_methodNamed B.named
  have hlocks := B.notSynchronized
  subst hsz
  have hD := hD0.self (sz := s.heap.size)
  generalize hAe : va_A [(o, .inr (2, [.ref lb, .int (nI u)])), (lb, .inl (cI, 32, .inl (tt_nf L))), (a, .inr (1, [.ref r, .int (nI n)])), (r, .inl (cB, 16384, .inl f))] s.heap.size = A at hD ⊢
  have hA : ∀ q : Nat, s.heap.size ≤ q → A q := fun q h => by rw [← hAe]; exact Or.inr h
  have hS : va_S A s.heap s.heap [] := va_S.rf
  have hl := lv_entry ([.ref o, .ref a, .int (nI x), .int (nI y)]) (n := 9) (Nat.le_of_ble_eq_true rfl)
  rw [lg_entry_eq]
  generalize (lg_sl ([.ref o, .ref a, .int (nI x), .int (nI y)]) ++ List.replicate (9 - (lg_sl ([.ref o, .ref a, .int (nI x), .int (nI y)])).length) Slot.unset).toArray = ls at hl ⊢
  have hl : lv_has ls 9 [(0, .ref o), (1, .ref a), (2, .int (nI x)), (3, .int (nI y))] := hl
  have hP : va_P D vwCl [(o, .inr (2, [.ref lb, .int (nI u)])), (lb, .inl (cI, 32, .inl (tt_nf L))), (a, .inr (1, [.ref r, .int (nI n)])), (r, .inl (cB, 16384, .inl f))] s.heap := hP
  refine lv_aload_n hx hb d_MG_take_0 rfl (lv_at hl 0 rfl) ?_
  refine lv_iconst (v := 0) hx hb d_MG_take_1 (by decide) ?_
  refine va_put (D := D) (ci := 2) (v := .int 0) (ty := .int) (C := R_MG) (T := F_MG) (N := 2) hx hb htT i_MG t_MG t_MG_ok n_MG hown hK hP hD hS 0 rfl rfl 1 (by decide) (htT _ k_146) (fun _ h9 => h9) rfl (by decide +kernel) rfl rfl (Nat.le_of_ble_eq_true rfl) d_MG_take_2 (fun H locs hP hD hS => ?_)
  have hP : va_P D vwCl [(o, .inr (2, [.ref lb, .int 0])), (lb, .inl (cI, 32, .inl (tt_nf L))), (a, .inr (1, [.ref r, .int (nI n)])), (r, .inl (cB, 16384, .inl f))] H := hP
  have hD : va_D A [(o, .inr (2, [.ref lb, .int 0])), (lb, .inl (cI, 32, .inl (tt_nf L))), (a, .inr (1, [.ref r, .int (nI n)])), (r, .inl (cB, 16384, .inl f))] := hD
  refine lv_lconst (v := lN 1) hx hb d_MG_take_5 (by decide) ?_
  refine lv_lstore (lv' := [(4, .long (lN 1)), (0, .ref o), (1, .ref a), (2, .int (nI x)), (3, .int (nI y))]) hx hb d_MG_take_6 hl (by decide) rfl (fun ls hl => ?_)
  refine lv_lconst (v := lN 0) hx hb d_MG_take_8 (by decide) ?_
  refine lv_lstore (lv' := [(6, .long (lN 0)), (4, .long (lN 1)), (0, .ref o), (1, .ref a), (2, .int (nI x)), (3, .int (nI y))]) hx hb d_MG_take_9 hl (by decide) rfl (fun ls hl => ?_)
  refine lv_aload_n hx hb d_MG_take_11 rfl (lv_at hl 3 rfl) ?_
  refine lv_iload_n hx hb d_MG_take_12 rfl (lv_at hl 4 rfl) ?_
  refine lv_iload_n hx hb d_MG_take_13 rfl (lv_at hl 5 rfl) ?_
  refine tt_roI (va_runS (As := [.ref a, .int (nI x), .int (nI y)]) (rest := []) ⟨hx, hb, hml, hown, hts⟩ (c_DE_firstDigit l D cI cB cL a r f n x y (by omega) (by omega) (by omega)) (va_cwS 3 hts (tt_gS2 k_482 k_281 k_16 k_282) rfl rfl rfl hv_DE_firstDigit.2 ⟨Nat.le_of_ble_eq_true rfl, Nat.le_of_ble_eq_true rfl⟩) (tt_ropreS (w := [(a, .inr (1, [.ref r, .int (nI n)])), (r, .inl (cB, 16384, .inl f))]) hK hP [2, 3] rfl) rfl rfl hl.1 rfl (lv_room (Nat.le_of_ble_eq_true rfl)) d_MG_take_14 ⟨Nat.zero_le _, Nat.zero_le _⟩) hS hP (fun H locs hP hS => ?_)
  have b_14_0 := tt_fdb f n x y
  refine lv_istore (lv' := [(8, .int (nI (tt_fd f n x y))), (6, .long (lN 0)), (4, .long (lN 1)), (0, .ref o), (1, .ref a), (2, .int (nI x)), (3, .int (nI y))]) hx hb d_MG_take_17 hl (by decide) rfl (fun ls hl => ?_)
  have cut_19 : ∀ (k9 : Nat) (j : Nat) (M : Nat → Nat) (w : Nat) (sc : Nat) (v : Nat) (_ : y - j < k9) (hj : tt_fd f n x y ≤ j ∧ j ≤ y) (hw : w ≤ 32) (hM : ∀ k, k < w → M k < 4294967296) (hsc : sc = 1 ∨ sc = 10 ∨ sc = 100 ∨ sc = 1000 ∨ sc = 10000 ∨ sc = 100000 ∨ sc = 1000000 ∨ sc = 10000000 ∨ sc = 100000000) (hv : v < sc) (he : tt_tk f n y j (M, w) sc v = tt_tk f n y (tt_fd f n x y) (L, 0) 1 0) (H : Heap) (locs : List Loc), va_P D vwCl [(o, .inr (2, [.ref lb, .int (nI w)])), (lb, .inl (cI, 32, .inl (tt_nf M))), (a, .inr (1, [.ref r, .int (nI n)])), (r, .inl (cB, 16384, .inl f))] H → va_D A [(o, .inr (2, [.ref lb, .int (nI w)])), (lb, .inl (cI, 32, .inl (tt_nf M))), (a, .inr (1, [.ref r, .int (nI n)])), (r, .inl (cB, 16384, .inl f))] → va_S A s.heap H locs → ∀ ls : Array Slot, lv_has ls 9 [(0, .ref o), (1, .ref a), (3, .int (nI y)), (4, .long (lN sc)), (6, .long (lN v)), (8, .int (nI j))] → W p l e (headSpec w_MG_take rm_MG_take).room s m ([.ref o, .ref a, .int (nI x), .int (nI y)] : List Value).toArray below meth c H locs 0 0 (MQ below (q_MG_take D cI cB cL o lb L u a r f n x y A) ([.ref o, .ref a, .int (nI x), .int (nI y)] : List Value).toArray s 0 0 A) (F0 m 19 ls []) := by
    intro k9
    induction k9 with
    | zero => intro j M w sc v h9; exact absurd h9 (Nat.not_lt_zero _)
    | succ k9 ih_19 =>
      intro j M w sc v h9 hj hw hM hsc hv he H locs hP hD hS ls hl
      refine lv_iload hx hb d_MG_take_19 (lv_at hl 5 rfl) ?_
      refine lv_iload_n hx hb d_MG_take_21 rfl (lv_at hl 2 rfl) ?_
      refine lv_icmp_ge (tgt := 89) hx hb d_MG_take_22 (by decide) (fun c_22 => ?_) (fun c_22 => ?_)
      · have c_22 : y ≤ j := (nI_leI (a := y) (b := j) (by omega) (by omega)).mp c_22
        have o_u2 : ((tt_tk f n y (tt_fd f n x y) (L, 0) 1 0).2 : Nat) = w := by rw [← he, tt_tk, dif_neg (by omega)]
        have o_L2 : ((tt_tk f n y (tt_fd f n x y) (L, 0) 1 0).1) = M := by rw [← he, tt_tk, dif_neg (by omega)]
        have hP9 : va_P D vwCl [(o, .inr (2, [.ref lb, .int (nI w)])), (lb, .inl (cI, 32, .inl (tt_nf M))), (a, .inr (1, [.ref r, .int (nI n)])), (r, .inl (cB, 16384, .inl f))] H := hP.sub [0, 1, 2, 3] rfl
        have hD9 : va_D A [(o, .inr (2, [.ref lb, .int (nI w)])), (lb, .inl (cI, 32, .inl (tt_nf M))), (a, .inr (1, [.ref r, .int (nI n)])), (r, .inl (cB, 16384, .inl f))] := hD.sub [0, 1, 2, 3] (by decide) rfl
        have hP9 : va_P D vwCl [(o, .inr (2, [.ref lb, .int (nI ((tt_tk f n y (tt_fd f n x y) (L, 0) 1 0).2))])), (lb, .inl (cI, 32, .inl (tt_nf ((tt_tk f n y (tt_fd f n x y) (L, 0) 1 0).1)))), (a, .inr (1, [.ref r, .int (nI n)])), (r, .inl (cB, 16384, .inl f))] H := by rw [o_u2, o_L2]; exact hP9
        have hD9 : va_D A [(o, .inr (2, [.ref lb, .int (nI ((tt_tk f n y (tt_fd f n x y) (L, 0) 1 0).2))])), (lb, .inl (cI, 32, .inl (tt_nf ((tt_tk f n y (tt_fd f n x y) (L, 0) 1 0).1)))), (a, .inr (1, [.ref r, .int (nI n)])), (r, .inl (cB, 16384, .inl f))] := by rw [o_u2, o_L2]; exact hD9
        exact W.vret hx hb hr (fun t ht hW => ⟨⟨(), rfl, trivial, by rw [ht]; exact hP9, hD9⟩, hS.F ht⟩) hS.2.2 d_MG_take_89
      · have c_22 : ¬ y ≤ j := fun z9 => c_22 ((nI_leI (a := y) (b := j) (by omega) (by omega)).mpr z9)
        have c_22 := Nat.not_le.mp c_22
        have hfd := tt_fdb f n x y
        have hdv := tt_dvc (hdd j (by have := tm_fd_st f n x y; omega) c_22)
        refine lv_lload hx hb d_MG_take_25 (lv_at hl 4 rfl) ?_
        refine lv_ldc2 (v := lN 10) hx hb hown (htT _ k_483) d_MG_take_27 ?_
        refine lv_lmul hx hb d_MG_take_30 ?_
        refine tt_tl (show (lN v) * (lN 10) = lN (v * 10) from lN_mul v 10) ?_
        refine lv_aload_n hx hb d_MG_take_31 rfl (lv_at hl 1 rfl) ?_
        refine lv_iload hx hb d_MG_take_32 (lv_at hl 5 rfl) ?_
        refine tt_roI (va_runV (As := [.int (nI j)]) (rest := [.long (lN (v * 10))]) ⟨hx, hb, hml, hown, hts⟩ (c_BY_at l D cI cB cL a r f n j (by omega) (by omega)) (cwV 1 hts (tt_gV k_484 k_174 k_175 k_2 k_176) rfl rfl rfl hv_BY_at ⟨Nat.le_of_ble_eq_true rfl, Nat.le_of_ble_eq_true rfl⟩) (tt_ropreV (w := [(a, .inr (1, [.ref r, .int (nI n)])), (r, .inl (cB, 16384, .inl f))]) hK hP [2, 3] rfl (va_recv hK hP (ci := 1) (q0 := 2) rfl rfl)) rfl rfl hl.1 rfl (lv_room (Nat.le_of_ble_eq_true rfl)) d_MG_take_34 ⟨Nat.zero_le _, Nat.zero_le _⟩) hS hP (fun H locs hP hS => ?_)
        refine lv_bipush (v := 48) hx hb d_MG_take_37 (by decide) ?_
        refine lv_isub hx hb d_MG_take_39 ?_
        refine tt_ti (show (tt_ch f n j) - 48 = nI (tm_dv f n j) from hdv.1) ?_
        refine lv_i2l (v := lN (tm_dv f n j)) hx hb d_MG_take_40 (nI_l (by omega)) ?_
        refine lv_ladd hx hb d_MG_take_41 ?_
        refine tt_tl (show (lN (v * 10)) + (lN (tm_dv f n j)) = lN ((v * 10) + (tm_dv f n j)) from lN_add (v * 10) (tm_dv f n j)) ?_
        refine lv_lstore (lv' := [(6, .long (lN ((v * 10) + (tm_dv f n j)))), (0, .ref o), (1, .ref a), (3, .int (nI y)), (4, .long (lN sc)), (8, .int (nI j))]) hx hb d_MG_take_42 hl (by decide) rfl (fun ls hl => ?_)
        refine lv_lload hx hb d_MG_take_44 (lv_at hl 4 rfl) ?_
        refine lv_ldc2 (v := lN 10) hx hb hown (htT _ k_483) d_MG_take_46 ?_
        refine lv_lmul hx hb d_MG_take_49 ?_
        refine tt_tl (show (lN sc) * (lN 10) = lN (sc * 10) from lN_mul sc 10) ?_
        refine lv_lstore (lv' := [(4, .long (lN (sc * 10))), (6, .long (lN ((v * 10) + (tm_dv f n j)))), (0, .ref o), (1, .ref a), (3, .int (nI y)), (8, .int (nI j))]) hx hb d_MG_take_50 hl (by decide) rfl (fun ls hl => ?_)
        refine lv_lload hx hb d_MG_take_52 (lv_at hl 0 rfl) ?_
        refine lv_ldc2 (v := lN 1000000000) hx hb hown (htT _ k_485) d_MG_take_54 ?_
        refine W.lcmp hx hb d_MG_take_57 ?_
        refine lv_if_eq (tgt := 69) hx hb d_MG_take_58 (by decide) (fun c_58 => ?_) (fun c_58 => ?_)
        · have c_58 : (sc * 10) = 1000000000 := (pk_lEQ (a := (sc * 10)) (b := 1000000000) (by omega) (by omega)).mp ((lg_cmp_eq _ _).mp c_58)
          refine lv_aload_n hx hb d_MG_take_69 rfl (lv_at hl 2 rfl) ?_
          refine lv_lload hx hb d_MG_take_70 (lv_at hl 0 rfl) ?_
          refine lv_lload hx hb d_MG_take_72 (lv_at hl 1 rfl) ?_
          refine tt_muV (wr := [(a, .inr (1, [.ref r, .int (nI n)])), (r, .inl (cB, 16384, .inl f))]) (va_runV (As := [.long (lN (sc * 10)), .long (lN ((v * 10) + (tm_dv f n j)))]) (rest := []) ⟨hx, hb, hml, hown, hts⟩ (c_MG_multiplyAndAdd l D cI cB cL o lb M w (sc * 10) ((v * 10) + (tm_dv f n j)) (by omega) (by assumption) (by omega) (by omega) _) (cwV 2 hts (tt_gV k_486 k_488 ks_18 k_6 k_489) rfl rfl rfl hv_MG_multiplyAndAdd ⟨Nat.le_of_ble_eq_true rfl, Nat.le_of_ble_eq_true rfl⟩) (tt_mupreV (w := [(o, .inr (2, [.ref lb, .int (nI w)])), (lb, .inl (cI, 32, .inl (tt_nf M)))]) hK hP hD [0, 1] rfl (by decide) rfl (va_recv hK hP (ci := 2) (q0 := 0) rfl rfl)) rfl rfl hl.1 rfl (lv_room (Nat.le_of_ble_eq_true rfl)) d_MG_take_74 ⟨Nat.zero_le _, Nat.zero_le _⟩) hS hP hD hA [0, 1] [2, 3] rfl rfl (by decide) (by decide) (fun H locs hP hD hS => ?_)
          have hP : va_P D vwCl [(a, .inr (1, [.ref r, .int (nI n)])), (r, .inl (cB, 16384, .inl f)), (o, .inr (2, [.ref lb, .int (nI ((tt_ma (M, w) (sc * 10) ((v * 10) + (tm_dv f n j))).2))])), (lb, .inl (cI, 32, .inl (tt_nf ((tt_ma (M, w) (sc * 10) ((v * 10) + (tm_dv f n j))).1))))] H := hP
          have hD : va_D A [(a, .inr (1, [.ref r, .int (nI n)])), (r, .inl (cB, 16384, .inl f)), (o, .inr (2, [.ref lb, .int (nI ((tt_ma (M, w) (sc * 10) ((v * 10) + (tm_dv f n j))).2))])), (lb, .inl (cI, 32, .inl (tt_nf ((tt_ma (M, w) (sc * 10) ((v * 10) + (tm_dv f n j))).1))))] := hD
          have hma := tt_ma_ok hM (a := sc * 10) (b := v * 10 + tm_dv f n j) (by omega) (by omega) hw
          refine lv_lconst (v := lN 1) hx hb d_MG_take_77 (by decide) ?_
          refine lv_lstore (lv' := [(4, .long (lN 1)), (6, .long (lN ((v * 10) + (tm_dv f n j)))), (0, .ref o), (1, .ref a), (3, .int (nI y)), (8, .int (nI j))]) hx hb d_MG_take_78 hl (by decide) rfl (fun ls hl => ?_)
          refine lv_lconst (v := lN 0) hx hb d_MG_take_80 (by decide) ?_
          refine lv_lstore (lv' := [(6, .long (lN 0)), (4, .long (lN 1)), (0, .ref o), (1, .ref a), (3, .int (nI y)), (8, .int (nI j))]) hx hb d_MG_take_81 hl (by decide) rfl (fun ls hl => ?_)
          refine lv_iinc (v := nI (j + 1)) (lv' := [(8, .int (nI (j + 1))), (6, .long (lN 0)), (4, .long (lN 1)), (0, .ref o), (1, .ref a), (3, .int (nI y))]) hx hb d_MG_take_83 hl (k := 5) rfl (nI_add j 1) (by decide) rfl (fun ls hl => ?_)
          refine lv_goto (tgt := 19) hx hb d_MG_take_86 (by decide) ?_
          exact ih_19 (j + 1) ((tt_ma (M, w) (sc * 10) ((v * 10) + (tm_dv f n j))).1) ((tt_ma (M, w) (sc * 10) ((v * 10) + (tm_dv f n j))).2) 1 0 (by omega) (by omega) (by first | omega | exact hma.2) (by first | exact hM | exact hma.1) (by omega) (by omega) (by rw [← he]; (conv => rhs; rw [tt_tk]); first | (simp [c_22, Nat.not_le.mpr c_22, eq_true c_58]; done) | (simp [c_22, Nat.not_le.mpr c_22, eq_true c_58]; intros; omega)) _ _ (hP.sub (ws' := [(o, .inr (2, [.ref lb, .int (nI ((tt_ma (M, w) (sc * 10) ((v * 10) + (tm_dv f n j))).2))])), (lb, .inl (cI, 32, .inl (tt_nf ((tt_ma (M, w) (sc * 10) ((v * 10) + (tm_dv f n j))).1)))), (a, .inr (1, [.ref r, .int (nI n)])), (r, .inl (cB, 16384, .inl f))]) [2, 3, 0, 1] rfl) (hD.sub (ws' := [(o, .inr (2, [.ref lb, .int (nI ((tt_ma (M, w) (sc * 10) ((v * 10) + (tm_dv f n j))).2))])), (lb, .inl (cI, 32, .inl (tt_nf ((tt_ma (M, w) (sc * 10) ((v * 10) + (tm_dv f n j))).1)))), (a, .inr (1, [.ref r, .int (nI n)])), (r, .inl (cB, 16384, .inl f))]) [2, 3, 0, 1] (by decide) rfl) hS ls (lv_sub hl [3, 4, 5, 2, 1, 0] rfl)
        · have c_58 : ¬ (sc * 10) = 1000000000 := fun z9 => c_58 ((lg_cmp_eq _ _).mpr ((pk_lEQ (a := (sc * 10)) (b := 1000000000) (by omega) (by omega)).mpr z9))
          refine lv_iload hx hb d_MG_take_61 (lv_at hl 5 rfl) ?_
          refine lv_iload_n hx hb d_MG_take_63 rfl (lv_at hl 4 rfl) ?_
          refine lv_iconst (v := 1) hx hb d_MG_take_64 (by decide) ?_
          refine lv_isub hx hb d_MG_take_65 ?_
          refine tt_ti (show (nI y) - 1 = nI (y - 1) from pk_sub (a := y) (b := 1) (by omega)) ?_
          refine lv_icmp_ne (tgt := 83) hx hb d_MG_take_66 (by decide) (fun c_66 => ?_) (fun c_66 => ?_)
          · have c_66 : ¬ j = (y - 1) := fun z9 => c_66 ((nI_eq (a := j) (b := (y - 1)) (by omega) (by omega)).mpr z9)
            refine lv_iinc (v := nI (j + 1)) (lv' := [(8, .int (nI (j + 1))), (4, .long (lN (sc * 10))), (6, .long (lN ((v * 10) + (tm_dv f n j)))), (0, .ref o), (1, .ref a), (3, .int (nI y))]) hx hb d_MG_take_83 hl (k := 5) rfl (nI_add j 1) (by decide) rfl (fun ls hl => ?_)
            refine lv_goto (tgt := 19) hx hb d_MG_take_86 (by decide) ?_
            exact ih_19 (j + 1) M w (sc * 10) ((v * 10) + (tm_dv f n j)) (by omega) (by omega) (by first | omega | exact hma.2) (by first | exact hM | exact hma.1) (by omega) (by omega) (by rw [← he]; (conv => rhs; rw [tt_tk]); first | (simp [c_22, Nat.not_le.mpr c_22, c_58, c_66]; done) | (simp [c_22, Nat.not_le.mpr c_22, c_58, c_66]; intros; omega)) _ _ (hP.sub (ws' := [(o, .inr (2, [.ref lb, .int (nI w)])), (lb, .inl (cI, 32, .inl (tt_nf M))), (a, .inr (1, [.ref r, .int (nI n)])), (r, .inl (cB, 16384, .inl f))]) [0, 1, 2, 3] rfl) (hD.sub (ws' := [(o, .inr (2, [.ref lb, .int (nI w)])), (lb, .inl (cI, 32, .inl (tt_nf M))), (a, .inr (1, [.ref r, .int (nI n)])), (r, .inl (cB, 16384, .inl f))]) [0, 1, 2, 3] (by decide) rfl) hS ls (lv_sub hl [3, 4, 5, 1, 2, 0] rfl)
          · have c_66 : j = (y - 1) := (nI_eq (a := j) (b := (y - 1)) (by omega) (by omega)).mp c_66
            refine lv_aload_n hx hb d_MG_take_69 rfl (lv_at hl 2 rfl) ?_
            refine lv_lload hx hb d_MG_take_70 (lv_at hl 0 rfl) ?_
            refine lv_lload hx hb d_MG_take_72 (lv_at hl 1 rfl) ?_
            refine tt_muV (wr := [(a, .inr (1, [.ref r, .int (nI n)])), (r, .inl (cB, 16384, .inl f))]) (va_runV (As := [.long (lN (sc * 10)), .long (lN ((v * 10) + (tm_dv f n j)))]) (rest := []) ⟨hx, hb, hml, hown, hts⟩ (c_MG_multiplyAndAdd l D cI cB cL o lb M w (sc * 10) ((v * 10) + (tm_dv f n j)) (by omega) (by assumption) (by omega) (by omega) _) (cwV 2 hts (tt_gV k_486 k_488 ks_18 k_6 k_489) rfl rfl rfl hv_MG_multiplyAndAdd ⟨Nat.le_of_ble_eq_true rfl, Nat.le_of_ble_eq_true rfl⟩) (tt_mupreV (w := [(o, .inr (2, [.ref lb, .int (nI w)])), (lb, .inl (cI, 32, .inl (tt_nf M)))]) hK hP hD [0, 1] rfl (by decide) rfl (va_recv hK hP (ci := 2) (q0 := 0) rfl rfl)) rfl rfl hl.1 rfl (lv_room (Nat.le_of_ble_eq_true rfl)) d_MG_take_74 ⟨Nat.zero_le _, Nat.zero_le _⟩) hS hP hD hA [0, 1] [2, 3] rfl rfl (by decide) (by decide) (fun H locs hP hD hS => ?_)
            have hP : va_P D vwCl [(a, .inr (1, [.ref r, .int (nI n)])), (r, .inl (cB, 16384, .inl f)), (o, .inr (2, [.ref lb, .int (nI ((tt_ma (M, w) (sc * 10) ((v * 10) + (tm_dv f n j))).2))])), (lb, .inl (cI, 32, .inl (tt_nf ((tt_ma (M, w) (sc * 10) ((v * 10) + (tm_dv f n j))).1))))] H := hP
            have hD : va_D A [(a, .inr (1, [.ref r, .int (nI n)])), (r, .inl (cB, 16384, .inl f)), (o, .inr (2, [.ref lb, .int (nI ((tt_ma (M, w) (sc * 10) ((v * 10) + (tm_dv f n j))).2))])), (lb, .inl (cI, 32, .inl (tt_nf ((tt_ma (M, w) (sc * 10) ((v * 10) + (tm_dv f n j))).1))))] := hD
            have hma := tt_ma_ok hM (a := sc * 10) (b := v * 10 + tm_dv f n j) (by omega) (by omega) hw
            refine lv_lconst (v := lN 1) hx hb d_MG_take_77 (by decide) ?_
            refine lv_lstore (lv' := [(4, .long (lN 1)), (6, .long (lN ((v * 10) + (tm_dv f n j)))), (0, .ref o), (1, .ref a), (3, .int (nI y)), (8, .int (nI j))]) hx hb d_MG_take_78 hl (by decide) rfl (fun ls hl => ?_)
            refine lv_lconst (v := lN 0) hx hb d_MG_take_80 (by decide) ?_
            refine lv_lstore (lv' := [(6, .long (lN 0)), (4, .long (lN 1)), (0, .ref o), (1, .ref a), (3, .int (nI y)), (8, .int (nI j))]) hx hb d_MG_take_81 hl (by decide) rfl (fun ls hl => ?_)
            refine lv_iinc (v := nI (j + 1)) (lv' := [(8, .int (nI (j + 1))), (6, .long (lN 0)), (4, .long (lN 1)), (0, .ref o), (1, .ref a), (3, .int (nI y))]) hx hb d_MG_take_83 hl (k := 5) rfl (nI_add j 1) (by decide) rfl (fun ls hl => ?_)
            refine lv_goto (tgt := 19) hx hb d_MG_take_86 (by decide) ?_
            exact ih_19 (j + 1) ((tt_ma (M, w) (sc * 10) ((v * 10) + (tm_dv f n j))).1) ((tt_ma (M, w) (sc * 10) ((v * 10) + (tm_dv f n j))).2) 1 0 (by omega) (by omega) (by first | omega | exact hma.2) (by first | exact hM | exact hma.1) (by omega) (by omega) (by rw [← he]; (conv => rhs; rw [tt_tk]); first | (simp [c_22, Nat.not_le.mpr c_22, c_58, eq_true c_66]; done) | (simp [c_22, Nat.not_le.mpr c_22, c_58, eq_true c_66]; intros; omega)) _ _ (hP.sub (ws' := [(o, .inr (2, [.ref lb, .int (nI ((tt_ma (M, w) (sc * 10) ((v * 10) + (tm_dv f n j))).2))])), (lb, .inl (cI, 32, .inl (tt_nf ((tt_ma (M, w) (sc * 10) ((v * 10) + (tm_dv f n j))).1)))), (a, .inr (1, [.ref r, .int (nI n)])), (r, .inl (cB, 16384, .inl f))]) [2, 3, 0, 1] rfl) (hD.sub (ws' := [(o, .inr (2, [.ref lb, .int (nI ((tt_ma (M, w) (sc * 10) ((v * 10) + (tm_dv f n j))).2))])), (lb, .inl (cI, 32, .inl (tt_nf ((tt_ma (M, w) (sc * 10) ((v * 10) + (tm_dv f n j))).1)))), (a, .inr (1, [.ref r, .int (nI n)])), (r, .inl (cB, 16384, .inl f))]) [2, 3, 0, 1] (by decide) rfl) hS ls (lv_sub hl [3, 4, 5, 2, 1, 0] rfl)
  exact cut_19 _ (tt_fd f n x y) L 0 1 0 (Nat.lt_succ_self _) (by have := tt_fdb f n x y; omega) (by omega) (by intro k h; omega) (by omega) (by omega) (by rfl) _ _ (hP.sub (ws' := [(o, .inr (2, [.ref lb, .int (nI 0)])), (lb, .inl (cI, 32, .inl (tt_nf L))), (a, .inr (1, [.ref r, .int (nI n)])), (r, .inl (cB, 16384, .inl f))]) [0, 1, 2, 3] rfl) (hD.sub (ws' := [(o, .inr (2, [.ref lb, .int (nI 0)])), (lb, .inl (cI, 32, .inl (tt_nf L))), (a, .inr (1, [.ref r, .int (nI n)])), (r, .inl (cB, 16384, .inl f))]) [0, 1, 2, 3] (by decide) rfl) hS ls (lv_sub hl [3, 4, 6, 2, 1, 0] rfl)
abbrev rm_MG_bit : Room := { frames := 0, cells := 0, slots := 0, locals := 0 }
abbrev q_MG_bit (D : va_G) (cI cB cL : ClassId) (o lb : Nat) (L : Nat → Nat) (u : Nat) (i : Int32) : Array Value → State → Outcome → State → Prop := va_Qi (fun r9 (_ : Unit) => r9 = (tt_bitA L u i)) (fun _ _ => True) (fun _ => False)
set_option maxHeartbeats 4000000 in
set_option maxRecDepth 100000 in
theorem c_MG_bit (l : Launch) (D : va_G) (cI cB cL : ClassId) (o lb : Nat) (L : Nat → Nat) (u : Nat) (i : Int32) (hu : u ≤ 32) (hL : ∀ k, k < u → L k < 4294967296) : Met l y_MG_bit w_MG_bit rm_MG_bit (va_Pc [.ref o, .int i] (fun U => va_P D vwCl [(o, .inr (2, [.ref lb, .int (nI u)])), (lb, .inl (cI, 32, .inl (tt_nf L)))] U.heap ∧ va_K D vwCl (tt_ty cI cB cL) U)) (q_MG_bit D cI cB cL o lb L u i) 0 0 (fun _ => False) := by
  refine Met.ofW (cc := b_MG_bit) (maxL := 2) (ret := (some .int)) (by decide) rfl ?_
  intro p e s m args below meth c s₁ B hml hv
  obtain ⟨rfl, hP, hK⟩ := hv
  have hx := B.exec
  have hb := B.bytes
  have hr := B.returns
  have hts := atoms_spec (ws := w_MG_bit) B.pre
  have htT : ∀ w ∈ tt_T, w.before _ s = true := fun w h => hts w (List.mem_cons_of_mem _ h)
  have hown : s.vm.findClass R_MG = some m.cls := findClass_of_methodNamed B.named
  have hlocks := B.notSynchronized
  have hS : va_S (fun _ => False) s.heap s.heap [] := va_S.rf
  have hl := lv_entry ([.ref o, .int i]) (n := 2) (Nat.le_of_ble_eq_true rfl)
  rw [lg_entry_eq]
  generalize (lg_sl ([.ref o, .int i]) ++ List.replicate (2 - (lg_sl ([.ref o, .int i])).length) Slot.unset).toArray = ls at hl ⊢
  have hl : lv_has ls 2 [(0, .ref o), (1, .int i)] := hl
  have hP : va_P D vwCl [(o, .inr (2, [.ref lb, .int (nI u)])), (lb, .inl (cI, 32, .inl (tt_nf L)))] s.heap := hP
  refine lv_iload_n hx hb d_MG_bit_0 rfl (lv_at hl 1 rfl) ?_
  refine lv_if_lt (tgt := 15) hx hb d_MG_bit_1 (by decide) (fun c_1 => ?_) (fun c_1 => ?_)
  · skip
    refine lv_iconst (v := (-1)) hx hb d_MG_bit_15 (by decide) ?_
    have o_r : ((-1) : Int32) = (tt_bitA L u i) := by simp [tt_bitA, tt_bitN, c_1]
    exact W.iret (v := (-1)) hx hb hr (fun t ht hW => ⟨⟨_, (), rfl, o_r, trivial⟩, hS.F ht⟩) hS.2.2 d_MG_bit_16
  · skip
    refine lv_iload_n hx hb d_MG_bit_4 rfl (lv_at hl 1 rfl) ?_
    refine lv_bipush (v := 32) hx hb d_MG_bit_5 (by decide) ?_
    refine lv_aload_n hx hb d_MG_bit_7 rfl (lv_at hl 0 rfl) ?_
    refine va_get (D := D) (ci := 2) (v := .int (nI u)) (C := R_MG) (T := F_MG) (N := 2) hx hb htT i_MG hown hK hP 0 rfl rfl 1 (by decide) (htT _ k_146) (fun _ h9 => h9) rfl d_MG_bit_8 ?_
    refine lv_imul hx hb d_MG_bit_11 ?_
    refine tt_ti (show 32 * (nI u) = nI (32 * u) from pk_mul 32 u) ?_
    refine lv_icmp_lt (tgt := 17) hx hb d_MG_bit_12 (by decide) (fun c_12 => ?_) (fun c_12 => ?_)
    · skip
      have hlt := tt_ltr2 c_1 c_12 (by omega)
      have hLi := hL (i.toNatClampNeg / 32) (by omega)
      refine lv_aload_n hx hb d_MG_bit_17 rfl (lv_at hl 0 rfl) ?_
      refine va_get (D := D) (ci := 2) (v := .ref lb) (C := R_MG) (T := F_MG) (N := 2) hx hb htT i_MG hown hK hP 0 rfl rfl 0 (by decide) (htT _ k_145) (fun _ h9 => h9) rfl d_MG_bit_18 ?_
      refine lv_iload_n hx hb d_MG_bit_21 rfl (lv_at hl 1 rfl) ?_
      refine lv_bipush (v := 32) hx hb d_MG_bit_22 (by decide) ?_
      refine lv_idiv hx hb d_MG_bit_24 (by decide) ?_
      refine tt_ti (show i / 32 = nI (i.toNatClampNeg / 32) from tt_divr c_1) ?_
      refine va_iald (D := D) hx hb hK hP 1 0 rfl rfl (vp_in_nI (by omega) (by omega)) d_MG_bit_25 ?_
      refine tt_ti (show (tt_nf L) (nI (i.toNatClampNeg / 32)).toNatClampNeg = (tt_nf L) (i.toNatClampNeg / 32) from by rw [nI_clamp (by omega)]) ?_
      refine tt_ti (show (tt_nf L) (i.toNatClampNeg / 32) = nI (L (i.toNatClampNeg / 32)) from rfl) ?_
      refine lv_iload_n hx hb d_MG_bit_26 rfl (lv_at hl 1 rfl) ?_
      refine lv_bipush (v := 32) hx hb d_MG_bit_27 (by decide) ?_
      refine lv_irem hx hb d_MG_bit_29 (by decide) ?_
      refine tt_ti (show i - i / 32 * 32 = nI (i.toNatClampNeg % 32) from tt_remr c_1) ?_
      refine lv_iushr (v := ((nI (L (i.toNatClampNeg / 32))).toUInt32 >>> ((nI (i.toNatClampNeg % 32)).toUInt32 &&& Int32.toUInt32 31)).toInt32) hx hb d_MG_bit_30 rfl ?_
      refine tt_ti (show ((nI (L (i.toNatClampNeg / 32))).toUInt32 >>> ((nI (i.toNatClampNeg % 32)).toUInt32 &&& Int32.toUInt32 31)).toInt32 = nI (L (i.toNatClampNeg / 32) / 2 ^ (i.toNatClampNeg % 32)) from tt_ush hLi (Nat.mod_lt _ (by decide))) ?_
      refine lv_iconst (v := 1) hx hb d_MG_bit_31 (by decide) ?_
      refine lv_iand hx hb d_MG_bit_32 ?_
      refine tt_ti (show (nI (L (i.toNatClampNeg / 32) / 2 ^ (i.toNatClampNeg % 32))) &&& 1 = nI (L (i.toNatClampNeg / 32) / 2 ^ (i.toNatClampNeg % 32) % 2) from tt_and1 (Nat.lt_of_le_of_lt (Nat.div_le_self _ _) hLi)) ?_
      have o_r : (nI (L (i.toNatClampNeg / 32) / 2 ^ (i.toNatClampNeg % 32) % 2)) = (tt_bitA L u i) := by simp [tt_bitA, tt_bitN, c_1, c_12]
      exact W.iret (v := nI (L (i.toNatClampNeg / 32) / 2 ^ (i.toNatClampNeg % 32) % 2)) hx hb hr (fun t ht hW => ⟨⟨_, (), rfl, o_r, trivial⟩, hS.F ht⟩) hS.2.2 d_MG_bit_33
    · skip
      refine lv_iconst (v := (-1)) hx hb d_MG_bit_15 (by decide) ?_
      have o_r : ((-1) : Int32) = (tt_bitA L u i) := by simp [tt_bitA, tt_bitN, c_1, c_12]
      exact W.iret (v := (-1)) hx hb hr (fun t ht hW => ⟨⟨_, (), rfl, o_r, trivial⟩, hS.F ht⟩) hS.2.2 d_MG_bit_16
abbrev rm_MG_bits : Room := { frames := 1, cells := 0, slots := 0, locals := 21 }
abbrev q_MG_bits (D : va_G) (cI cB cL : ClassId) (o lb : Nat) (L : Nat → Nat) (u : Nat) : Array Value → State → Outcome → State → Prop := va_Qi (fun r9 (_ : Unit) => r9 = (nI (tt_btF L (32 * u)))) (fun _ _ => True) (fun _ => False)
set_option maxHeartbeats 4000000 in
set_option maxRecDepth 100000 in
theorem c_MG_bits (l : Launch) (D : va_G) (cI cB cL : ClassId) (o lb : Nat) (L : Nat → Nat) (u : Nat) (hu : u ≤ 32) (hL : ∀ k, k < u → L k < 4294967296) : Met l y_MG_bits w_MG_bits rm_MG_bits (va_Pc [.ref o] (fun U => va_P D vwCl [(o, .inr (2, [.ref lb, .int (nI u)])), (lb, .inl (cI, 32, .inl (tt_nf L)))] U.heap ∧ va_K D vwCl (tt_ty cI cB cL) U)) (q_MG_bits D cI cB cL o lb L u) 0 0 (fun _ => False) := by
  refine Met.ofW (cc := b_MG_bits) (maxL := 2) (ret := (some .int)) (by decide) rfl ?_
  intro p e s m args below meth c s₁ B hml hv
  obtain ⟨rfl, hP, hK⟩ := hv
  have hx := B.exec
  have hb := B.bytes
  have hr := B.returns
  have hts := atoms_spec (ws := w_MG_bits) B.pre
  have htT : ∀ w ∈ tt_T, w.before _ s = true := fun w h => hts w (List.mem_cons_of_mem _ h)
  have hown : s.vm.findClass R_MG = some m.cls := findClass_of_methodNamed B.named
  have hlocks := B.notSynchronized
  have hS : va_S (fun _ => False) s.heap s.heap [] := va_S.rf
  have hl := lv_entry ([.ref o]) (n := 2) (Nat.le_of_ble_eq_true rfl)
  rw [lg_entry_eq]
  generalize (lg_sl ([.ref o]) ++ List.replicate (2 - (lg_sl ([.ref o])).length) Slot.unset).toArray = ls at hl ⊢
  have hl : lv_has ls 2 [(0, .ref o)] := hl
  have hP : va_P D vwCl [(o, .inr (2, [.ref lb, .int (nI u)])), (lb, .inl (cI, 32, .inl (tt_nf L)))] s.heap := hP
  refine lv_bipush (v := 32) hx hb d_MG_bits_0 (by decide) ?_
  refine lv_aload_n hx hb d_MG_bits_2 rfl (lv_at hl 0 rfl) ?_
  refine va_get (D := D) (ci := 2) (v := .int (nI u)) (C := R_MG) (T := F_MG) (N := 2) hx hb htT i_MG hown hK hP 0 rfl rfl 1 (by decide) (htT _ k_146) (fun _ h9 => h9) rfl d_MG_bits_3 ?_
  refine lv_imul hx hb d_MG_bits_6 ?_
  refine tt_ti (show 32 * (nI u) = nI (32 * u) from pk_mul 32 u) ?_
  refine lv_istore_n (lv' := [(1, .int (nI (32 * u))), (0, .ref o)]) hx hb d_MG_bits_7 rfl hl (by decide) rfl (fun ls hl => ?_)
  have cut_8 : ∀ (k9 : Nat) (z : Nat) (_ : z < k9) (hz : z ≤ 32 * u) (he : tt_btF L z = tt_btF L (32 * u)) (H : Heap) (locs : List Loc), va_P D vwCl [(o, .inr (2, [.ref lb, .int (nI u)])), (lb, .inl (cI, 32, .inl (tt_nf L)))] H → va_S (fun _ => False) s.heap H locs → ∀ ls : Array Slot, lv_has ls 2 [(0, .ref o), (1, .int (nI z))] → W p l e (headSpec w_MG_bits rm_MG_bits).room s m ([.ref o] : List Value).toArray below meth c H locs 0 0 (MQ below (q_MG_bits D cI cB cL o lb L u) ([.ref o] : List Value).toArray s 0 0 (fun _ => False)) (F0 m 8 ls []) := by
    intro k9
    induction k9 with
    | zero => intro z h9; exact absurd h9 (Nat.not_lt_zero _)
    | succ k9 ih_8 =>
      intro z h9 hz he H locs hP hS ls hl
      refine lv_iload_n hx hb d_MG_bits_8 rfl (lv_at hl 1 rfl) ?_
      refine lv_if_le (tgt := 28) hx hb d_MG_bits_9 (by decide) (fun c_9 => ?_) (fun c_9 => ?_)
      · have c_9 : z ≤ 0 := (nI_leI (a := z) (b := 0) (by omega) (by omega)).mp c_9
        refine lv_iload_n hx hb d_MG_bits_28 rfl (lv_at hl 1 rfl) ?_
        have o_r : (nI z) = (nI (tt_btF L (32 * u))) := by rw [← he]; first | (rw [show z = 0 by omega]; rfl) | rw [tt_btF_1 (by omega) c_19]
        exact W.iret (v := nI z) hx hb hr (fun t ht hW => ⟨⟨_, (), rfl, o_r, trivial⟩, hS.F ht⟩) hS.2.2 d_MG_bits_29
      · have c_9 : ¬ z ≤ 0 := fun z9 => c_9 ((nI_leI (a := z) (b := 0) (by omega) (by omega)).mpr z9)
        have c_9 := Nat.not_le.mp c_9
        refine lv_aload_n hx hb d_MG_bits_12 rfl (lv_at hl 0 rfl) ?_
        refine lv_iload_n hx hb d_MG_bits_13 rfl (lv_at hl 1 rfl) ?_
        refine lv_iconst (v := 1) hx hb d_MG_bits_14 (by decide) ?_
        refine lv_isub hx hb d_MG_bits_15 ?_
        refine tt_ti (show (nI z) - 1 = nI (z - 1) from pk_sub (a := z) (b := 1) (by omega)) ?_
        refine tt_roI (va_runV (As := [.int (nI (z - 1))]) (rest := []) ⟨hx, hb, hml, hown, hts⟩ (c_MG_bit l D cI cB cL o lb L u (nI (z - 1)) (by omega) (by assumption)) (cwV 1 hts (tt_gV k_495 k_496 k_497 k_6 k_498) rfl rfl rfl hv_MG_bit ⟨Nat.le_of_ble_eq_true rfl, Nat.le_of_ble_eq_true rfl⟩) (tt_ropreV (w := [(o, .inr (2, [.ref lb, .int (nI u)])), (lb, .inl (cI, 32, .inl (tt_nf L)))]) hK hP [0, 1] rfl (va_recv hK hP (ci := 2) (q0 := 0) rfl rfl)) rfl rfl hl.1 rfl (lv_room (Nat.le_of_ble_eq_true rfl)) d_MG_bits_16 ⟨Nat.zero_le _, Nat.zero_le _⟩) hS hP (fun H locs hP hS => ?_)
        have hb9 := tt_bitA_n L (u := u) (k := z - 1) (by omega) hu
        refine tt_ti (show tt_bitA L u (nI (z - 1)) = nI (tt_bitN L (z - 1)) from hb9) ?_
        have hb8 := tt_bitN_lt L (z - 1)
        refine lv_if_ne (tgt := 28) hx hb d_MG_bits_19 (by decide) (fun c_19 => ?_) (fun c_19 => ?_)
        · have c_19 : ¬ (tt_bitN L (z - 1)) = 0 := fun z9 => c_19 ((nI_eq (a := (tt_bitN L (z - 1))) (b := 0) (by omega) (by omega)).mpr z9)
          refine lv_iload_n hx hb d_MG_bits_28 rfl (lv_at hl 1 rfl) ?_
          have o_r : (nI z) = (nI (tt_btF L (32 * u))) := by rw [← he]; first | (rw [show z = 0 by omega]; rfl) | rw [tt_btF_1 (by omega) c_19]
          exact W.iret (v := nI z) hx hb hr (fun t ht hW => ⟨⟨_, (), rfl, o_r, trivial⟩, hS.F ht⟩) hS.2.2 d_MG_bits_29
        · have c_19 : (tt_bitN L (z - 1)) = 0 := (nI_eq (a := (tt_bitN L (z - 1))) (b := 0) (by omega) (by omega)).mp c_19
          have hz0 := c_19
          refine lv_iinc (v := nI (z - 1)) (lv' := [(1, .int (nI (z - 1))), (0, .ref o)]) hx hb d_MG_bits_22 hl (k := 1) rfl (tt_dec1 (a := z) (by omega)) (by decide) rfl (fun ls hl => ?_)
          refine lv_goto (tgt := 8) hx hb d_MG_bits_25 (by decide) ?_
          exact ih_8 (z - 1) (by omega) (by omega) (by rw [← he]; exact (tt_btF_0 (by omega) hz0).symm) _ _ (hP.sub (ws' := [(o, .inr (2, [.ref lb, .int (nI u)])), (lb, .inl (cI, 32, .inl (tt_nf L)))]) [0, 1] rfl) hS ls (lv_sub hl [1, 0] rfl)
  exact cut_8 _ (32 * u) (Nat.lt_succ_self _) (by omega) (by rfl) _ _ (hP.sub (ws' := [(o, .inr (2, [.ref lb, .int (nI u)])), (lb, .inl (cI, 32, .inl (tt_nf L)))]) [0, 1] rfl) hS ls (lv_sub hl [1, 0] rfl)
