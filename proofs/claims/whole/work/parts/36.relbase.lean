section
variable {p : Program} {l : Launch} {e : Env} {R : Room} {s : State} {m : MethodId} {args : Array Value} {below : List Frame} {meth : Method} {c : Code} {H H0 : Heap} {locs : List Loc} {cells slots pc : Nat} {ls : Array Slot} {st0 rest : List Value} {Q : State → Prop} {A0 : Nat → Prop} {a : Array Value} {D : va_G} {cl : List vw_C} {ws wc wr : va_W}
theorem tt_muR {S : Type} {post : Int32 → S → Prop} {w1 : S → va_W} (hr : va_Run p l e R s m args below meth c H locs cells slots 0 0 (F0 m pc ls st0) rest (va_Qi post (fun u t => va_P D cl (w1 u) t.heap ∧ va_D (va_A wc H.size) (w1 u)) (va_A wc H.size) a) (va_A wc H.size)) (hS : va_S A0 H0 H locs) (hP : va_P D cl ws H) (hD : va_D A0 ws) (hA : ∀ q, H0.size ≤ q → A0 q) (isC isR : List Nat) (hC : isC.map (fun i => ws[i]?) = wc.map some) (hR : isR.map (fun i => ws[i]?) = wr.map some) (hn : va_nd isR = true) (hdis : ∀ i ∈ isR, i ∉ isC)
    (kk : ∀ (r : Int32) (u : S) (H1 : Heap) (locs1 : List Loc), post r u → va_P D cl (wr ++ w1 u) H1 → va_D A0 (wr ++ w1 u) → va_S A0 H0 H1 locs1 → W p l e R s m args below meth c H1 locs1 cells slots Q (F0 m (pc + 3) ls (.int r :: rest))) : W p l e R s m args below meth c H locs cells slots Q (F0 m pc ls st0) := by
  have hF := va_free hD hS hA isC hC
  refine va_calli hr hS (fun q _ h => hF q h) hF (fun r u t H1 locs1 ht hvm hw hB hz hk hS1 => ?_)
  obtain ⟨h1, h2⟩ := hB
  rw [ht] at h1
  obtain ⟨hP2, hD2⟩ := va_join hP hD isC isR hC hR hn hdis hk hF h1 h2
  exact kk r u H1 locs1 hw hP2 hD2 hS1
end
/-! rows of both sides -/
def tt_Q (q r : Nat → Nat → Int32) (n : Nat) : Prop := ∀ t, t < n → q 0 t = r 0 t ∧ q 1 t = r 1 t ∧ q 2 t = r 4 t ∧ q 3 t = r 5 t ∧ ((q 4 t = -1 ∧ q 5 t = -1 ∧ r 6 t = 0 ∧ r 7 t = 0) ∨ (q 4 t = r 6 t ∧ q 5 t = r 7 t ∧ ¬ q 4 t < 0))
def tt_E (r r' : Nat → Nat → Int32) (n : Nat) : Prop := ∀ t, t < n → r' 0 t = r 0 t ∧ r' 1 t = r 1 t
theorem tt_set_get (r : Nat → Nat → Int32) (k t : Nat) (v : Int32) (a b : Nat) : tt_set r k t v a b = if a = k ∧ b = t then v else r a b := by
  unfold tt_set upd
  by_cases h : a = k
  · rw [if_pos h]
    by_cases h2 : b = t
    · rw [if_pos h2, if_pos ⟨h, h2⟩]
    · rw [if_neg h2, if_neg (fun z => h2 z.2)]
  · rw [if_neg h, if_neg (fun z => h z.1)]
/-- a new term on both sides -/
theorem tt_Q_new {q r : Nat → Nat → Int32} {n : Nat} {k pa : Int32} {i j : Nat} (h : tt_Q q r n) (hk : k.toInt8.toInt32 = k) (hn : ¬ 4096 ≤ n) : tt_Q (tm_new q n k pa i j) (tt_add r n k pa i j) (n + 1) ∧ tt_E r (tt_add r n k pa i j) n ∧ tt_add r n k pa i j 0 n = k ∧ tt_add r n k pa i j 1 n = pa := by
  have ha : ∀ a t, ¬ a = 2 → tt_add r n k pa i j a t = tt_new r n k pa i j a t := by
    intro a t h2
    unfold tt_add
    rw [if_neg hn]
    split
    · rfl
    · split
      · rfl
      · rw [tt_set_get, if_neg (fun z => h2 z.1)]
  have hb : ∀ a t, ¬ t = n → tt_new r n k pa i j a t = r a t := by
    intro a t h2
    unfold tt_new
    simp only [tt_set_get, h2, and_false, if_false]
  have hc : ∀ a t, ¬ t = n → tm_new q n k pa i j a t = q a t := by
    intro a t h2
    unfold tm_new
    simp only [tt_set_get, h2, and_false, if_false]
  refine ⟨fun t ht => ?_, fun t ht => ?_, ?_, ?_⟩
  · rw [ha 0 t (by decide), ha 1 t (by decide), ha 4 t (by decide), ha 5 t (by decide), ha 6 t (by decide), ha 7 t (by decide)]
    by_cases e : t = n
    · subst e
      unfold tm_new tt_new
      simp [tt_set_get, hk]
    · rw [hb 0 t e, hb 1 t e, hb 4 t e, hb 5 t e, hb 6 t e, hb 7 t e, hc 0 t e, hc 1 t e, hc 2 t e, hc 3 t e, hc 4 t e, hc 5 t e]
      exact h t (by omega)
  · rw [ha 0 t (by decide), ha 1 t (by decide), hb 0 t (by omega), hb 1 t (by omega)]
    exact ⟨rfl, rfl⟩
  · rw [ha 0 n (by decide)]
    unfold tt_new
    simp [tt_set_get]
  · rw [ha 1 n (by decide)]
    unfold tt_new
    simp [tt_set_get]
