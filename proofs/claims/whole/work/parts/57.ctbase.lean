/-! Rows for what makes cells: arrays of a known class, objects, constructors. -/
def tt_nwl : List (String × Nat × MethodName) := [(R_TT, 9, y_BY_init), (R_TT, 18, y_TM_init), (R_TM, 11, y_BY_init), (R_TT, 25, y_RD_init), (R_RD, 11, y_SC_init), (R_TT, 32, y_MG_init)]
def tt_NW (U : State) : Prop := ∀ q ∈ tt_nwl, va_Nw (.methodLinkNest q.1 q.2.1 q.2.2 R_TT) U
theorem tt_NW.warm {s U : State} (h : tt_NW s) (hW : s.WarmedH U.vm) : tt_NW U := fun q hq => va_Nw.warmM hW (h q hq)
theorem tt_NW.call {U : State} {g : JFrame} {mk : MethodId} {a : Array Value} (h : tt_NW U) : tt_NW (U.calling g mk a) := fun q hq => va_Nw.same rfl rfl (h q hq)
theorem tt_NW.at {s : State} (h : tt_NW s) (i : Nat) {q : String × Nat × MethodName} (hi : tt_nwl[i]? = some q) : va_Nw (.methodLinkNest q.1 q.2.1 q.2.2 R_TT) s := h q (List.mem_of_getElem? hi)
section
variable {p : Program} {l : Launch} {e : Env} {R : Room} {s : State} {m : MethodId} {args : Array Value} {below : List Frame} {meth : Method} {c : Code} {cc : ByteArray} {H H0 : Heap} {locs : List Loc} {cells slots mc ms pc : Nat} {ls : Array Slot} {st0 rest : List Value} {Q : State → Prop} {A A0 : Nat → Prop} {a : Array Value} {D : va_G} {cl : List vw_C} {ws w wc wr : va_W} {tys : List (ClassId × FieldType)}
theorem tt_newa (hexec : p.tables.exec = Jvm.exec) (hb : c.code = cc) {atype : ArrayType} (harr : (Cond.arrayClass (newarray.typeOf atype)).before args s = true) {ty : FieldType} (hty : newarray.typeOf atype = ty) (hK : va_K D cl tys s) (hq : ty = .int ∨ ty = .byte ∨ ty = .long) (j : Nat) {cJ : ClassId} (hj : tys[j]? = some (cJ, ty)) (hP : va_P D cl ws H) (hD : va_D A ws) (hS : va_S A H0 H locs) (hA : ∀ q, H0.size ≤ q → A q)
    {n : Int32} {N' : Nat} {a0 : vp_A} (ha : ∀ cA : ClassId, vp_cell cA a0 = arrV cA N' (fun _ => defaultValue ty)) (hn : ¬ n < 0) (hN : n.toNatClampNeg = N') (hbytes : N' * componentBytes ty ≤ 536870912) (hcells : cells + 1 ≤ R.cells) (hslots : slots + N' ≤ R.slots) (hdg : decode cc pc = .ok (.newarray atype, 2))
    (kk : ∀ (q : Nat) (H1 : Heap), va_P D cl (ws ++ [(q, .inl (cJ, a0))]) H1 → va_D A (ws ++ [(q, .inl (cJ, a0))]) → va_S A H0 H1 locs →
      W p l e R s m args below meth c H1 locs (cells + 1) (slots + N') Q (F0 m (pc + 2) ls (.ref q :: rest))) : W p l e R s m args below meth c H locs cells slots Q (F0 m pc ls (.int n :: rest)) := by
  refine va_newa hexec hb harr hty hK hP hD hS hA ha hn hN hbytes hcells hslots hdg (fun q cA H1 hK1 hP1 hD1 hS1 => ?_)
  have e1 := hK1.2 tys.length (cA, ty) (by simp)
  have e2 := hK.2 j (cJ, ty) hj
  have e3 : cA = cJ := by
    rcases hq with rfl | rfl | rfl
    · exact Option.some.inj (Eq.trans (Eq.symm (show s.vm.findClass ("[" ++ FieldType.int.toString) = some cA from e1.2)) (show s.vm.findClass ("[" ++ FieldType.int.toString) = some cJ from e2.2))
    · exact Option.some.inj (Eq.trans (Eq.symm (show s.vm.findClass ("[" ++ FieldType.byte.toString) = some cA from e1.2)) (show s.vm.findClass ("[" ++ FieldType.byte.toString) = some cJ from e2.2))
    · exact Option.some.inj (Eq.trans (Eq.symm (show s.vm.findClass ("[" ++ FieldType.long.toString) = some cA from e1.2)) (show s.vm.findClass ("[" ++ FieldType.long.toString) = some cJ from e2.2))
  subst e3
  exact kk q H1 hP1 hD1 hS1
theorem tt_ctV {w1 : (Nat → Nat) → va_W} (hr : va_Run p l e R s m args below meth c H locs cells slots mc ms (F0 m pc ls st0) rest (va_Qv (fun (_ : Nat → Nat) => True) (fun u t => va_P D cl (w1 u) t.heap ∧ va_D (va_A wc H.size) (w1 u)) (va_A wc H.size) a) (va_A wc H.size)) (hS : va_S A0 H0 H locs) (hP : va_P D cl ws H) (hD : va_D A0 ws) (hA : ∀ q, H0.size ≤ q → A0 q) (isC isR : List Nat) (hC : isC.map (fun i => ws[i]?) = wc.map some) (hR : isR.map (fun i => ws[i]?) = wr.map some) (hn : va_nd isR = true) (hdis : ∀ i ∈ isR, i ∉ isC)
    (kk : ∀ (u : Nat → Nat) (H1 : Heap) (locs1 : List Loc), va_P D cl (wr ++ w1 u) H1 → va_D A0 (wr ++ w1 u) → va_S A0 H0 H1 locs1 → W p l e R s m args below meth c H1 locs1 (cells + mc) (slots + ms) Q (F0 m (pc + 3) ls rest)) : W p l e R s m args below meth c H locs cells slots Q (F0 m pc ls st0) := by
  have hF := va_free hD hS hA isC hC
  refine va_callv hr hS (fun q _ h => hF q h) hF (fun u t H1 locs1 ht hvm hw hB hz hk hS1 => ?_)
  obtain ⟨h1, h2⟩ := hB
  rw [ht] at h1
  obtain ⟨hP2, hD2⟩ := va_join hP hD isC isR hC hR hn hdis hk hF h1 h2
  exact kk u H1 locs1 hP2 hD2 hS1
theorem tt_ctpre {b : Nat} (hK : va_K D cl tys s) (hP : va_P D cl ws H) (hD : va_D A0 ws) (hN : tt_NW s) (is : List Nat) (hs : is.filterMap (fun i => ws[i]?) = w) (hn : va_nd is = true) (hm : is.map (fun i => ws[i]?) = w.map some) : PreS s H (va_Pc [.ref b] (fun U => U.heap.size = H.size ∧ va_P D cl w U.heap ∧ va_K D cl tys U ∧ va_D (fun _ => True) w ∧ tt_NW U)) [.ref b] :=
  ⟨fun a U g mk q => ⟨q.1, q.2.1, q.2.2.1, va_K.moved (u := U) (U := U.calling g mk a) (Vm.Alike.refl U.vm) q.2.2.2.1, q.2.2.2.2.1, q.2.2.2.2.2.call⟩, fun U hU hW => ⟨rfl, by rw [hU], by rw [hU]; exact hP.sub is hs, va_K.moved hW.alike hK, (hD.sub is hn hm).weaken (fun _ _ _ _ => trivial), hN.warm hW⟩⟩
end
