/-! end where it throws. -/
def tt_EXn : String := "java/lang/IllegalArgumentException"
def tt_exl : List Cond := Bundle.ownAtoms R_TT 56 tt_EXn ["java/lang/RuntimeException", "java/lang/Exception"]
set_option maxRecDepth 100000 in
theorem tt_exk : ∀ w ∈ tt_exl, w.onTables = true → w.keepsFace = true := by decide +kernel
def tt_exs : List Cond := [.isRef (.static Bundle.tN "UNASSIGNED_STACK" Bundle.steD), .isRef (.static Bundle.tN "SUPPRESSED_SENTINEL" Bundle.listD), .laysStatic Bundle.tN "UNASSIGNED_STACK" Bundle.steD, .laysStatic Bundle.tN "SUPPRESSED_SENTINEL" Bundle.listD]
set_option maxRecDepth 100000 in
theorem tt_exo : ∀ w ∈ tt_exl, w.onTables = false → w ∈ tt_exs := by decide +kernel
/-- a static field that holds a reference or null -/
def tt_LZ (C n d : String) (A : Nat → Prop) (U : State) (H : Heap) : Prop := ∃ (cc : ClassId) (k : Class) (i : Nat) (f : Field) (a : Nat) (cell : Cell) (v : Value), U.vm.findClass C = some cc ∧ U.fieldFound? C n d = some (cc, k, i, f) ∧ f.isStatic = true ∧ k.statics = some a ∧ H[a]? = some cell ∧ cell.vm.isStatics = true ∧ cell.cls = cc ∧ f.slot < cell.slots.size ∧ k.staticTypes[f.slot]? = some f.type ∧ cell.slots[f.slot]? = some v ∧ v.isRef = true ∧ ¬ A a
theorem tt_LZ.moved {C n d : String} {A : Nat → Prop} {u U : State} {H : Heap} (hvm : u.vm.Alike U.vm) (h : tt_LZ C n d A u H) : tt_LZ C n d A U H := by
  obtain ⟨cc, k, i, f, a, cell, v, h1, h2, h3, h4, h5, h6, h7, h8, h9, h10, h11, h12⟩ := h
  obtain ⟨k', hi', hek⟩ := State.fieldFound?_setVm hvm h2
  exact ⟨cc, k', i, f, a, cell, v, by rw [hvm.findClass]; exact h1, hi', h3, by rw [hek]; exact h4, h5, h6, h7, h8, by rw [hek]; exact h9, h10, h11, h12⟩
theorem tt_LZ.kept {C n d : String} {A B : Nat → Prop} {U : State} {H H1 : Heap} (h : tt_LZ C n d A U H) (hq : ∀ a : Nat, a < H.size → ¬ A a → H1[a]? = H[a]?) (hAB : ∀ q, B q → A q) : tt_LZ C n d B U H1 := by
  obtain ⟨cc, k, i, f, a, cell, v, h1, h2, h3, h4, h5, h6, h7, h8, h9, h10, h11, h12⟩ := h
  exact ⟨cc, k, i, f, a, cell, v, h1, h2, h3, h4, by rw [hq a (Array.getElem?_eq_some_iff.mp h5).1 h12]; exact h5, h6, h7, h8, h9, h10, h11, fun z => h12 (hAB a z)⟩
theorem tt_LZ.lays {C n d : String} {A : Nat → Prop} {s : State} {args : Array Value} (h : tt_LZ C n d A s s.heap) : (Cond.laysStatic C n d).before args s = true := by
  obtain ⟨cc, k, i, f, a, cell, v, h1, h2, h3, h4, h5, h6, h7, h8, h9, h10, h11, h12⟩ := h
  exact Cond.laysStatic_of h1 h2 h3 h4 h5 h6 h7 h8 h9
theorem tt_LZ.isRef {C n d : String} {A : Nat → Prop} {s : State} {args : Array Value} (h : tt_LZ C n d A s s.heap) : (Cond.isRef (.static C n d)).before args s = true := by
  obtain ⟨cc, k, i, f, a, cell, v, h1, h2, h3, h4, h5, h6, h7, h8, h9, h10, h11, h12⟩ := h
  have he : (Term.static C n d).eval args s none [] s = some v := by simp [Term.eval, State.fieldNamed?, h2, h3, h4, h5, h6, h10]
  simp only [Cond.before, Cond.holds, Cond.value, he]
  cases v <;> first | rfl | exact Bool.noConfusion h11
theorem tt_LZ.of {C n d : String} {A : Nat → Prop} {s : State} {args : Array Value} (hl : (Cond.laysStatic C n d).before args s = true) (hr : (Cond.isRef (.static C n d)).before args s = true) (hA : ∀ a : Nat, a < s.heap.size → ¬ A a) : tt_LZ C n d A s s.heap := by
  obtain ⟨cc, k, i, f, a, cell, hc, hi, hst, ha, hcell, hs, hcls, hlt, hty⟩ := Cond.laysStatic_spec hl
  obtain ⟨v, hv⟩ := Cond.staticRefV hi hst ha hcell hs hr
  exact ⟨cc, k, i, f, a, cell, v.v, hc, hi, hst, ha, hcell, hs, hcls, hlt, hty, hv, v.ok, hA a (Array.getElem?_eq_some_iff.mp hcell).1⟩
def tt_EX (A : Nat → Prop) (U : State) (H : Heap) : Prop := (∀ w ∈ tt_exl, w.onTables = true → va_Nw w U) ∧ tt_LZ Bundle.tN "UNASSIGNED_STACK" Bundle.steD A U H ∧ tt_LZ Bundle.tN "SUPPRESSED_SENTINEL" Bundle.listD A U H
theorem tt_Nw_warm {w : Cond} {s U : State} (hW : s.WarmedH U.vm) (hk : w.keepsFace = true) (ho : w.onTables = true) (h : va_Nw w s) : va_Nw w U := by
  have h1 : w.before #[] (s.setVm U.vm) = true := Cond.before_shiftedFace (State.Shifted.of_warmed hW) _ hk h
  exact va_tabs ho (rfl : (s.setVm U.vm).vm = U.vm) h1
theorem tt_EX.use {A B : Nat → Prop} {s U : State} {H : Heap} {locs : List Loc} (h : tt_EX A s s.heap) (hS : va_S A s.heap H locs) (hU : U.heap = H) (hW : s.WarmedH U.vm) (hAB : ∀ q, B q → A q) : tt_EX B U U.heap := by
  rw [hU]
  exact ⟨fun z hz ho => tt_Nw_warm hW (tt_exk z hz ho) ho (h.1 z hz ho), (h.2.1.kept hS.2.1 hAB).moved hW.alike, (h.2.2.kept hS.2.1 hAB).moved hW.alike⟩
theorem tt_EX.call {A : Nat → Prop} (a : Array Value) (U : State) (g : JFrame) (mk : MethodId) (h : tt_EX A U U.heap) : tt_EX A (U.calling g mk a) (U.calling g mk a).heap :=
  ⟨fun z hz ho => va_Nw.same (u := U) ho rfl (h.1 z hz ho), h.2.1.moved (Vm.Alike.refl U.vm), h.2.2.moved (Vm.Alike.refl U.vm)⟩
theorem tt_EX.atoms {A : Nat → Prop} {s : State} {args : Array Value} (h : tt_EX A s s.heap) : ∀ w ∈ tt_exl, w.before args s = true := fun w hw => by
  cases ho : w.onTables with
  | true => exact va_Nw.use ho (h.1 w hw ho)
  | false =>
    have q := tt_exo w hw ho
    simp only [tt_exs, List.mem_cons, List.not_mem_nil, or_false] at q
    rcases q with rfl | rfl | rfl | rfl
    · exact h.2.1.isRef
    · exact h.2.2.isRef
    · exact h.2.1.lays
    · exact h.2.2.lays
theorem tt_same_heap {st t : State} {k n : Nat} (h : st.sameButNew ({ t with vm := st.vm } : State) [] k n) : st.heap.size ≤ t.heap.size ∧ ∀ q, q < st.heap.size → t.heap[q]? = st.heap[q]? := by
  refine ⟨h.2.1, fun q hq => ?_⟩
  obtain ⟨c', h1, h2, h3, h4⟩ := h.2.2.2.2.2 q st.heap[q] (Array.getElem?_eq_getElem hq)
  have h1 : t.heap[q]? = some c' := h1
  rw [h1, Array.getElem?_eq_getElem hq]
  have e : c'.slots = st.heap[q].slots := Array.ext_getElem? (fun i => h4 i (by simp))
  rw [h2, e]
abbrev rm_TT_end_t : Room := { frames := 7, cells := 1, slots := 6, locals := 200 }
def q_TT_end_t : Array Value → State → Outcome → State → Prop := fun _ st o t => ∃ x, o = .threw x ∧ st.WarmedH t.vm ∧ st.sameButNew ({ t with vm := st.vm } : State) [] 1 6 ∧ ∃ ce, t.heap[x]? = some ce ∧ ce.vm = .none ∧ st.vm.findClass tt_EXn = some ce.cls ∧ st.vm.assignable ce.cls ce.cls = true
set_option maxHeartbeats 4000000 in
set_option maxRecDepth 100000 in
theorem c_TT_end_t (l : Launch) (htr : ∀ e : Env, l.admits e → e.platform.stackTraces = false) (D : va_G) (cI cB cL : ClassId) (adK adV ad : Nat → Nat) (cn : Nat) (x : Int32) (hxn : x < 0 ∨ ¬ x ≤ nI cn) : MetFree l y_TT_end (headSpec w_TT_end rm_TT_end_t) (va_Pc [.ref (ad 13), .int x] (fun U => va_P D vwCl [(ad 13, .inr (0, [.ref (ad 14), .ref (ad 0), .ref (ad 11), .ref (ad 16)])), (ad 14, .inr (1, [.ref (ad 15), .int (nI cn)]))] U.heap ∧ va_K D vwCl (tt_ty cI cB cL) U ∧ tt_X adK adV (fun _ => False) U U.heap ∧ tt_EX (fun _ => False) U U.heap)) (fun _ _ _ _ _ => True) q_TT_end_t := by
  refine tt_ofWX (cc := b_TT_end) (maxL := 3) (ret := some .int) (by decide) rfl ?_
  intro p e s m args below meth c s₁ B hml hv
  obtain ⟨rfl, hP, hK, hX, hE⟩ := hv
  have hx := B.exec
  have hb := B.bytes
  have hts := atoms_spec (ws := w_TT_end) B.pre
  have htT : ∀ w ∈ tt_T, w.before _ s = true := fun w h => hts w (List.mem_cons_of_mem _ h)
  have hown : s.vm.findClass R_TT = some m.cls := findClass_of_methodNamed B.named
  have hlocks := B.notSynchronized
  have hout : c.exceptionTable.isEmpty = true := B.noHandlers (hts _ List.mem_cons_self)
  have hl := lv_entry ([.ref (ad 13), .int x]) (n := 3) (Nat.le_of_ble_eq_true rfl)
  rw [lg_entry_eq]
  generalize (lg_sl ([.ref (ad 13), .int x]) ++ List.replicate (3 - (lg_sl ([.ref (ad 13), .int x])).length) Slot.unset).toArray = ls at hl ⊢
  have hl : lv_has ls 3 [(0, .ref (ad 13)), (1, .int x)] := hl
  refine lv_aload_n hx hb d_TT_end_0 rfl (lv_at hl 0 rfl) ?_
  refine va_get (D := D) (ci := 0) (v := .ref (ad 14)) (C := R_TT) (T := F_TT) (N := 4) hx hb htT i_TT hown hK hP 0 rfl rfl 0 (by decide) (htT _ k_152) (fun _ h9 => h9) rfl d_TT_end_1 ?_
  refine va_get (D := D) (ci := 1) (v := .int (nI cn)) (C := R_BY) (T := F_BY) (N := 2) hx hb htT i_BY hown hK hP 1 rfl rfl 1 (by decide) (htT _ k_39) (fun _ h9 => h9) rfl d_TT_end_4 ?_
  refine lv_istore_n (lv' := [(2, .int (nI cn)), (0, .ref (ad 13)), (1, .int x)]) hx hb d_TT_end_7 rfl hl (by decide) rfl (fun ls hl => ?_)
  have k17 : W p l e (headSpec w_TT_end rm_TT_end_t).room s m ([.ref (ad 13), .int x] : List Value).toArray below meth c s.heap [] 0 0 (tt_XQ below q_TT_end_t ([.ref (ad 13), .int x] : List Value).toArray s) (F0 m 17 ls []) := by
    refine W.newc (C := tt_EXn) (n := 6) hx hb hown (htT _ k_613) (htT _ k_614) (htT _ k_12) rfl d_TT_end_17 (Nat.le_of_ble_eq_true rfl) (Nat.le_of_ble_eq_true rfl) (fun cC kC f1 f2 f3 f4 => ?_)
    refine W.eq (g2 := F0 m 20 ls [.ref s.heap.size]) rfl ?_
    refine lv_dup hx hb d_TT_end_20 rfl ?_
    refine va_ldcS hx hb hown (hX.2 14 (by decide)) d_TT_end_21 ?_
    intro T hT X
    obtain ⟨U, hst, h1, h2, h3, h4, ce, h5, h6⟩ := X.ctorThrowS hx (htr e X.admits) (own := R_TT) (cls := tt_EXn) (names := ["java/lang/RuntimeException", "java/lang/Exception"]) (ic := 56) hown (by decide +kernel) (by decide +kernel) hE.atoms (fun z hz => absurd hz List.not_mem_nil) (a := s.heap.size) (cX := cC) (kX := kC) f1 f2 (by rw [hT]; simp [freshCell]) (Nat.le_refl _) (msg := .ref (adK 14)) rfl (g := F0 m 23 ls [.ref (adK 14), .ref s.heap.size, .ref s.heap.size]) rfl (hl.1.trans hml.symm) rfl rfl (rest := []) rfl (by rw [hb]; exact d_TT_end_23) (by rw [hb]; exact d_TT_end_26) (fun z hz => by rw [Array.isEmpty_iff.mp hout] at hz; exact absurd hz (by simp)) (by decide) (Nat.le_of_ble_eq_true rfl) hlocks
    exact ⟨U, hst, .threw s.heap.size, h1, h2, s.heap.size, rfl, h3, h4, ce, h5, h6.vm, h6.cls, h6.self⟩
  refine lv_iload_n hx hb d_TT_end_8 rfl (lv_at hl 2 rfl) ?_
  refine lv_if_lt (tgt := 17) hx hb d_TT_end_9 (by decide) (fun c_9 => k17) (fun c_9 => ?_)
  refine lv_iload_n hx hb d_TT_end_12 rfl (lv_at hl 2 rfl) ?_
  refine lv_iload_n hx hb d_TT_end_13 rfl (lv_at hl 0 rfl) ?_
  refine lv_icmp_le (tgt := 27) hx hb d_TT_end_14 (by decide) (fun c_14 => ?_) (fun c_14 => k17)
  rcases hxn with h | h
  · exact absurd h c_9
  · exact absurd c_14 h
abbrev rm_LW_end_t : Room := { frames := 8, cells := 1, slots := 6, locals := 300 }
set_option maxHeartbeats 4000000 in
set_option maxRecDepth 100000 in
theorem c_LW_end_t (l : Launch) (htr : ∀ e : Env, l.admits e → e.platform.stackTraces = false) (D : va_G) (cI cB cL : ClassId) (adK adV ad : Nat → Nat) (cn ar : Nat) (x : Int32) (hxn : x < 0 ∨ ¬ x ≤ nI cn) : Met l y_LW_end w_LW_end rm_LW_end_t (va_Pc [.ref (ad 13), .int x, .ref ar] (fun U => va_P D vwCl [(ad 13, .inr (0, [.ref (ad 14), .ref (ad 0), .ref (ad 11), .ref (ad 16)])), (ad 14, .inr (1, [.ref (ad 15), .int (nI cn)]))] U.heap ∧ va_K D vwCl (tt_ty cI cB cL) U ∧ tt_X adK adV (fun _ => False) U U.heap ∧ tt_EX (fun _ => False) U U.heap)) (va_Qi (fun r (_ : Unit) => r = 1) (fun _ _ => True) (fun _ => False)) 1 6 (fun _ => False) := by
  refine va_MetW (hh := [(0, 9, 12, 19)]) (cc := b_LW_end) (maxL := 4) (ret := some .int) (by decide) rfl ?_
  intro p e s m args below meth c s₁ B hml hv
  obtain ⟨rfl, hP, hK, hX, hE⟩ := hv
  have hx := B.exec
  have hb := B.bytes
  have hr := B.returns
  have hts := atoms_spec (ws := w_LW_end) B.pre
  have htT : ∀ w ∈ tt_T, w.before _ s = true := fun w h => hts w (List.mem_cons_of_mem _ h)
  have hown : s.vm.findClass R_LW = some m.cls := findClass_of_methodNamed B.named
  have hlocks := B.notSynchronized
  have hent : c.exceptionTable.toList = [{ startPc := 0, endPc := 9, handlerPc := 12, catchType := 19 }] := by
    obtain ⟨m9, meth9, c9, n1, n2, n3, -, -, n4, -⟩ := Cond.codeWith_spec (hts _ List.mem_cons_self)
    cases B.named.symm.trans n1
    cases B.method.symm.trans n2
    cases (Stand.of_body B).code.symm.trans n3
    generalize c.exceptionTable.toList = es at n4 ⊢
    cases es with
    | nil => simp at n4
    | cons en es =>
      cases es with
      | nil =>
        obtain ⟨a1, a2, a3, a4⟩ := en
        simp at n4
        obtain ⟨rfl, rfl, rfl, rfl⟩ := n4
        rfl
      | cons _ _ => simp at n4
  have hl := lv_entry ([.ref (ad 13), .int x, .ref ar]) (n := 4) (Nat.le_of_ble_eq_true rfl)
  rw [lg_entry_eq]
  generalize (lg_sl ([.ref (ad 13), .int x, .ref ar]) ++ List.replicate (4 - (lg_sl ([.ref (ad 13), .int x, .ref ar])).length) Slot.unset).toArray = ls at hl ⊢
  have hl : lv_has ls 4 [(0, .ref (ad 13)), (1, .int x), (2, .ref ar)] := hl
  refine lv_aload_n hx hb d_LW_end_0 rfl (lv_at hl 2 rfl) ?_
  refine lv_iconst (v := 0) hx hb d_LW_end_1 (by decide) ?_
  refine lv_aload_n hx hb d_LW_end_2 rfl (lv_at hl 0 rfl) ?_
  refine lv_iload_n hx hb d_LW_end_3 rfl (lv_at hl 1 rfl) ?_
  intro T hT X
  have hS : va_S (fun _ => False) s.heap s.heap [] := va_S.rf
  obtain ⟨y, st, t, T', h0, hal, hq, hh, X', hstep⟩ := tt_callVT (H := s.heap) (g := F0 m 4 ls [.int x, .ref (ad 13), .int 0, .ref ar]) (As := [.int x]) (rest := [.int 0, .ref ar]) (b := ad 13) (C := R_TT) (mc := 1) (ms := 6) ⟨hx, hb, hml, hown, hts⟩ (c_TT_end_t l htr D cI cB cL adK adV ad cn x hxn) (cwV 1 hts (tt_gV k_609 k_610 k_611 k_1 k_612) rfl rfl rfl hv_TT_end ⟨Nat.le_of_ble_eq_true rfl, Nat.le_of_ble_eq_true rfl⟩)
    ⟨fun a U g mk q => ⟨q.1, q.2.1, va_K.moved (u := U) (U := U.calling g mk a) (Vm.Alike.refl U.vm) q.2.2.1, tt_X.call a U g mk q.2.2.2.1, tt_EX.call a U g mk q.2.2.2.2⟩, va_recv hK hP (ci := 0) (q0 := 0) rfl rfl, fun U hU hW => ⟨rfl, by rw [hU]; exact hP, va_K.moved hW.alike hK, hX.use hS hU hW (fun _ h => h), hE.use hS hU hW (fun _ h => h)⟩⟩
    (fun a st o t h => by obtain ⟨z, z1, z2, z3, -⟩ := h; exact ⟨z, z1, z2, z3⟩) rfl rfl hl.1 rfl (lv_room (Nat.le_of_ble_eq_true rfl)) d_LW_end_4 ⟨Nat.le_of_ble_eq_true rfl, Nat.le_of_ble_eq_true rfl⟩ hT X
  obtain ⟨x', e1, hW, hsm, ce, g1, g2, g3, g4⟩ := hq
  cases e1
  have sm := tt_same_heap hsm
  rw [h0, ← hh] at sm
  obtain ⟨vm', X2, hst2⟩ := tt_catch X' (g := F0 m 4 ls [.int 0, .ref ar]) rfl hent rfl (by decide) hown (htT _ k_608) (cell := ce) (by rw [hh]; exact g1) (fun k h => by rw [g2] at h; cases h) (by rw [← hal.findClass]; exact g3) (by rw [← hal.assignable]; exact g4)
  have kk : W p l e (headSpec w_LW_end rm_LW_end_t).room s m ([.ref (ad 13), .int x, .ref ar] : List Value).toArray below meth c T'.heap [] (0 + 1) (0 + 6) (MQ below (va_Qi (fun r (_ : Unit) => r = 1) (fun _ _ => True) (fun _ => False)) ([.ref (ad 13), .int x, .ref ar] : List Value).toArray s 1 6 (fun _ => False)) (F0 m 12 ls [.ref y]) := by
    refine lv_astore_n (lv' := [(3, .ref y), (0, .ref (ad 13)), (1, .int x), (2, .ref ar)]) hx hb d_LW_end_12 rfl hl (by decide) rfl (fun ls hl => ?_)
    refine lv_iconst (v := 1) hx hb d_LW_end_13 (by decide) ?_
    exact W.iret (v := 1) hx hb hr (fun t ht hW => ⟨⟨1, (), rfl, rfl, trivial⟩, by rw [ht]; exact sm.1, fun q h1 _ => by rw [ht]; exact sm.2 q h1⟩) (fun q h => absurd h List.not_mem_nil) d_LW_end_14
  obtain ⟨t2, a1, b1⟩ := kk (T'.setVm vm') rfl X2
  exact ⟨t2, hstep _ (hst2 _ a1), b1⟩
