/-! Shapes of contracts, and rows over the kit's: a call that writes nothing, a call whose written cells come back. -/
abbrev tt_ty (cI cB cL : ClassId) : List (ClassId × FieldType) := [(cI, .int), (cB, .byte), (cL, .long)]
def tt_b (b : Bool) : Int32 := if b then 1 else 0
theorem tt_b0 {b : Bool} : tt_b b = 0 ↔ b = false := by cases b <;> decide
theorem tt_bn0 {b : Bool} : ¬ tt_b b = 0 ↔ b = true := by cases b <;> decide
theorem tt_nz {r : Int32} {b : Bool} (h : r = tt_b b) : narrow .boolean (.int r) = .int r := by
  subst h
  cases b <;> decide
theorem tt_sub1 (a k : Nat) (h : k ≤ a) {z : Int32} (hz : z = nI k) : nI a - z = nI (a - k) := by rw [hz]; exact pk_sub h
theorem tt_ki {x z : Int32} {k : Int} (h : ¬ x = z) (hz : z.toInt = k) : ¬ k = x.toInt := fun q => h (Int32.toInt_inj.mp (by rw [hz, q]))
theorem tt_dec1 {a : Nat} (h : 1 ≤ a) : nI a + Int32.ofInt (-1) = nI (a - 1) := by
  have e : a = (a - 1) + 1 := by omega
  rw [e]
  exact pk_m1 (a - 1)
theorem tt_min {a b : Nat} (ha : a < 2 ^ 31) (hb : b < 2 ^ 31) : (if nI b < nI a then nI b else nI a) = nI (min a b) := by
  by_cases h : b < a
  · rw [if_pos ((nI_ltI hb ha).mpr h), Nat.min_eq_right (Nat.le_of_lt h)]
  · rw [if_neg (fun z => h ((nI_ltI hb ha).mp z)), Nat.min_eq_left (Nat.le_of_not_lt h)]
section
variable {p : Program} {l : Launch} {e : Env} {R : Room} {s : State} {m : MethodId} {args : Array Value} {below : List Frame} {meth : Method} {c : Code} {H H0 : Heap} {locs : List Loc} {cells slots pc : Nat} {ls : Array Slot} {st0 rest : List Value} {Q : State → Prop} {A0 : Nat → Prop} {a : Array Value} {D : va_G} {cl : List vw_C} {ws w wc wr w1 : va_W} {tys : List (ClassId × FieldType)}
theorem tt_ti {x y : Int32} (h : x = y) (k : W p l e R s m args below meth c H locs cells slots Q (F0 m pc ls (.int y :: rest))) : W p l e R s m args below meth c H locs cells slots Q (F0 m pc ls (.int x :: rest)) := h ▸ k
theorem tt_tl {x y : Int64} (h : x = y) (k : W p l e R s m args below meth c H locs cells slots Q (F0 m pc ls (.long y :: rest))) : W p l e R s m args below meth c H locs cells slots Q (F0 m pc ls (.long x :: rest)) := h ▸ k
theorem tt_keep {H1 : Heap} (hP : va_P D cl ws H) (hk : ∀ q : Nat, q < H.size → ¬ False → H1[q]? = H[q]?) : va_P D cl ws H1 :=
  hP.kept (fun k q hq => hk q.1 (va_at.lt (hP k q hq)) (fun h => h))
theorem tt_roI {x : Int32} (hr : va_Run p l e R s m args below meth c H locs cells slots 0 0 (F0 m pc ls st0) rest (va_Qi (fun r (_ : Unit) => r = x) (fun _ _ => True) (fun _ => False) a) (fun _ => False)) (hS : va_S A0 H0 H locs) (hP : va_P D cl ws H)
    (kk : ∀ (H1 : Heap) (locs1 : List Loc), va_P D cl ws H1 → va_S A0 H0 H1 locs1 → W p l e R s m args below meth c H1 locs1 cells slots Q (F0 m (pc + 3) ls (.int x :: rest))) : W p l e R s m args below meth c H locs cells slots Q (F0 m pc ls st0) := by
  refine va_calli hr hS (fun q _ h => h.elim) (fun q h => h.elim) (fun r u t H1 locs1 ht hvm hw hB hz hk hS1 => ?_)
  rw [hw]
  exact kk H1 locs1 (tt_keep hP hk) hS1
theorem tt_roV (hr : va_Run p l e R s m args below meth c H locs cells slots 0 0 (F0 m pc ls st0) rest (va_Qv (fun (_ : Unit) => True) (fun _ _ => True) (fun _ => False) a) (fun _ => False)) (hS : va_S A0 H0 H locs) (hP : va_P D cl ws H)
    (kk : ∀ (H1 : Heap) (locs1 : List Loc), va_P D cl ws H1 → va_S A0 H0 H1 locs1 → W p l e R s m args below meth c H1 locs1 cells slots Q (F0 m (pc + 3) ls rest)) : W p l e R s m args below meth c H locs cells slots Q (F0 m pc ls st0) := by
  refine va_callv hr hS (fun q _ h => h.elim) (fun q h => h.elim) (fun u t H1 locs1 ht hvm hw hB hz hk hS1 => ?_)
  exact kk H1 locs1 (tt_keep hP hk) hS1
theorem tt_roR {x : Nat} (hr : va_Run p l e R s m args below meth c H locs cells slots 0 0 (F0 m pc ls st0) rest (va_Qr (fun (_ : Unit) => True) (fun _ a _ => a = x) (fun _ => False) a) (fun _ => False)) (hS : va_S A0 H0 H locs) (hP : va_P D cl ws H)
    (kk : ∀ (H1 : Heap) (locs1 : List Loc), va_P D cl ws H1 → va_S A0 H0 H1 locs1 → W p l e R s m args below meth c H1 locs1 cells slots Q (F0 m (pc + 3) ls (.ref x :: rest))) : W p l e R s m args below meth c H locs cells slots Q (F0 m pc ls st0) := by
  refine va_callr hr hS (fun q _ h => h.elim) (fun q h => h.elim) (fun u ra t H1 locs1 ht hvm hw hB hz hk hS1 => ?_)
  rw [hB]
  exact kk H1 locs1 (tt_keep hP hk) hS1
theorem tt_muI {x : Int32} (hr : va_Run p l e R s m args below meth c H locs cells slots 0 0 (F0 m pc ls st0) rest (va_Qi (fun r (_ : Unit) => r = x) (fun _ t => va_P D cl w1 t.heap ∧ va_D (va_A wc H.size) w1) (va_A wc H.size) a) (va_A wc H.size)) (hS : va_S A0 H0 H locs) (hP : va_P D cl ws H) (hD : va_D A0 ws) (hA : ∀ q, H0.size ≤ q → A0 q) (isC isR : List Nat) (hC : isC.map (fun i => ws[i]?) = wc.map some) (hR : isR.map (fun i => ws[i]?) = wr.map some) (hn : va_nd isR = true) (hdis : ∀ i ∈ isR, i ∉ isC)
    (kk : ∀ (H1 : Heap) (locs1 : List Loc), va_P D cl (wr ++ w1) H1 → va_D A0 (wr ++ w1) → va_S A0 H0 H1 locs1 → W p l e R s m args below meth c H1 locs1 cells slots Q (F0 m (pc + 3) ls (.int x :: rest))) : W p l e R s m args below meth c H locs cells slots Q (F0 m pc ls st0) := by
  have hF := va_free hD hS hA isC hC
  refine va_calli hr hS (fun q _ h => hF q h) hF (fun r u t H1 locs1 ht hvm hw hB hz hk hS1 => ?_)
  obtain ⟨h1, h2⟩ := hB
  rw [ht] at h1
  obtain ⟨hP2, hD2⟩ := va_join hP hD isC isR hC hR hn hdis hk hF h1 h2
  rw [hw]
  exact kk H1 locs1 hP2 hD2 hS1
theorem tt_muV (hr : va_Run p l e R s m args below meth c H locs cells slots 0 0 (F0 m pc ls st0) rest (va_Qv (fun (_ : Unit) => True) (fun _ t => va_P D cl w1 t.heap ∧ va_D (va_A wc H.size) w1) (va_A wc H.size) a) (va_A wc H.size)) (hS : va_S A0 H0 H locs) (hP : va_P D cl ws H) (hD : va_D A0 ws) (hA : ∀ q, H0.size ≤ q → A0 q) (isC isR : List Nat) (hC : isC.map (fun i => ws[i]?) = wc.map some) (hR : isR.map (fun i => ws[i]?) = wr.map some) (hn : va_nd isR = true) (hdis : ∀ i ∈ isR, i ∉ isC)
    (kk : ∀ (H1 : Heap) (locs1 : List Loc), va_P D cl (wr ++ w1) H1 → va_D A0 (wr ++ w1) → va_S A0 H0 H1 locs1 → W p l e R s m args below meth c H1 locs1 cells slots Q (F0 m (pc + 3) ls rest)) : W p l e R s m args below meth c H locs cells slots Q (F0 m pc ls st0) := by
  have hF := va_free hD hS hA isC hC
  refine va_callv hr hS (fun q _ h => hF q h) hF (fun u t H1 locs1 ht hvm hw hB hz hk hS1 => ?_)
  obtain ⟨h1, h2⟩ := hB
  rw [ht] at h1
  obtain ⟨hP2, hD2⟩ := va_join hP hD isC isR hC hR hn hdis hk hF h1 h2
  exact kk H1 locs1 hP2 hD2 hS1
theorem tt_robl {av : List Value} : FrameBlind (va_Pc av (fun U => va_P D cl w U.heap ∧ va_K D cl tys U)) :=
  fun a U g mk q => ⟨q.1, q.2.1, va_K.moved (u := U) (U := U.calling g mk a) (Vm.Alike.refl U.vm) q.2.2⟩
theorem tt_ropreS {As : List Value} (hK : va_K D cl tys s) (hP : va_P D cl ws H) (is : List Nat) (hs : is.filterMap (fun i => ws[i]?) = w) : PreS s H (va_Pc As (fun U => va_P D cl w U.heap ∧ va_K D cl tys U)) As :=
  ⟨tt_robl, fun U hU hW => ⟨rfl, by rw [hU]; exact hP.sub is hs, va_K.moved hW.alike hK⟩⟩
theorem tt_ropreV {C : String} {b : Nat} {As : List Value} (hK : va_K D cl tys s) (hP : va_P D cl ws H) (is : List Nat) (hs : is.filterMap (fun i => ws[i]?) = w) (hr : ∃ cell : Cell, H[b]? = some cell ∧ cell.vm.isStatics = false ∧ s.vm.findClass C = some cell.cls) : PreV s H C b (va_Pc (.ref b :: As) (fun U => va_P D cl w U.heap ∧ va_K D cl tys U)) As :=
  ⟨tt_robl, hr, fun U hU hW => ⟨rfl, by rw [hU]; exact hP.sub is hs, va_K.moved hW.alike hK⟩⟩
theorem tt_mubl {av : List Value} {sz : Nat} : FrameBlind (va_Pc av (fun U => U.heap.size = sz ∧ va_P D cl w U.heap ∧ va_K D cl tys U ∧ va_D (fun _ => True) w)) :=
  fun a U g mk q => ⟨q.1, q.2.1, q.2.2.1, va_K.moved (u := U) (U := U.calling g mk a) (Vm.Alike.refl U.vm) q.2.2.2.1, q.2.2.2.2⟩
theorem tt_mupreS {As : List Value} (hK : va_K D cl tys s) (hP : va_P D cl ws H) (hD : va_D A0 ws) (is : List Nat) (hs : is.filterMap (fun i => ws[i]?) = w) (hn : va_nd is = true) (hm : is.map (fun i => ws[i]?) = w.map some) : PreS s H (va_Pc As (fun U => U.heap.size = H.size ∧ va_P D cl w U.heap ∧ va_K D cl tys U ∧ va_D (fun _ => True) w)) As :=
  ⟨tt_mubl, fun U hU hW => ⟨rfl, by rw [hU], by rw [hU]; exact hP.sub is hs, va_K.moved hW.alike hK, (hD.sub is hn hm).weaken (fun _ _ _ _ => trivial)⟩⟩
theorem tt_mupreV {C : String} {b : Nat} {As : List Value} (hK : va_K D cl tys s) (hP : va_P D cl ws H) (hD : va_D A0 ws) (is : List Nat) (hs : is.filterMap (fun i => ws[i]?) = w) (hn : va_nd is = true) (hm : is.map (fun i => ws[i]?) = w.map some) (hr : ∃ cell : Cell, H[b]? = some cell ∧ cell.vm.isStatics = false ∧ s.vm.findClass C = some cell.cls) : PreV s H C b (va_Pc (.ref b :: As) (fun U => U.heap.size = H.size ∧ va_P D cl w U.heap ∧ va_K D cl tys U ∧ va_D (fun _ => True) w)) As :=
  ⟨tt_mubl, hr, fun U hU hW => ⟨rfl, by rw [hU], by rw [hU]; exact hP.sub is hs, va_K.moved hW.alike hK, (hD.sub is hn hm).weaken (fun _ _ _ _ => trivial)⟩⟩
end
