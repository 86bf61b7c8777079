/-! How many terms stand in a term. -/
theorem tm_ct_out {g : Nat → Int32} {n t c : Nat} (h : ¬ c < n) : tm_ct g n t c = 0 := by rw [tm_ct, dif_neg h]
theorem tm_ct_in {g : Nat → Int32} {n t c : Nat} (h : c < n) : tm_ct g n t c = (if g c = nI t then 1 else 0) + tm_ct g n t (c + 1) := by rw [tm_ct, dif_pos h]
theorem tm_ct_s {g g' : Nat → Int32} {n t : Nat} (e : ∀ z, z < n → g' z = g z) : ∀ (m c : Nat), n - c ≤ m → c ≤ n → tm_ct g' (n + 1) t c = tm_ct g n t c + (if g' n = nI t then 1 else 0) := by
  intro m
  induction m with
  | zero =>
    intro c h1 h2
    have : c = n := by omega
    subst this
    rw [tm_ct_in (by omega), tm_ct_out (n := c + 1) (by omega), tm_ct_out (by omega)]
    omega
  | succ m ih =>
    intro c h1 h2
    rcases Nat.lt_or_ge c n with q | q
    · rw [tm_ct_in (by omega), ih (c + 1) (by omega) (by omega), tm_ct_in q, e c q]
      omega
    · have : c = n := by omega
      subst this
      rw [tm_ct_in (by omega), tm_ct_out (n := c + 1) (by omega), tm_ct_out (by omega)]
      omega
def tt_P2 (σ : tt_S) : Prop := ∀ t, t < σ.2.1 → σ.1 3 t = 1 ∧ σ.1 2 t = nI (tm_ct (σ.1 1) σ.2.1 t (t + 1))
theorem tt_P2_add {r : Nat → Nat → Int32} {n : Nat} {k op du : Int32} {i j : Nat} (hn : ¬ 4096 ≤ n) (hO : tt_Op (r 1) n op du) (h : ∀ t, t < n → r 3 t = 1 ∧ r 2 t = nI (tm_ct (r 1) n t (t + 1))) : ∀ t, t < n + 1 → tt_add r n k op i j 3 t = 1 ∧ tt_add r n k op i j 2 t = nI (tm_ct (tt_add r n k op i j 1) (n + 1) t (t + 1)) := by
  intro t ht
  have e := tt_add_1 (r := r) (n := n) (k := k) (p := op) (i := i) (j := j) hn
  have c : ∀ z, z < n → tt_add r n k op i j 1 z = r 1 z := fun z hz => by rw [e z, if_neg (by omega)]
  have en : tt_add r n k op i j 1 n = op := by rw [e n, if_pos rfl]
  have n3 : tt_new r n k op i j 3 t = if t = n then 1 else r 3 t := by unfold tt_new; simp [tt_set_get]
  have n2 : ∀ z, tt_new r n k op i j 2 z = if z = n then 0 else r 2 z := fun z => by unfold tt_new; simp [tt_set_get]
  have a3 : tt_add r n k op i j 3 t = tt_new r n k op i j 3 t := by
    unfold tt_add
    rw [if_neg hn]
    split
    · rfl
    split
    · rfl
    · rw [tt_set_get, if_neg (fun z => absurd z.1 (by decide))]
  have a2 : tt_add r n k op i j 2 t = (if t = n then 0 else r 2 t) + (if op = nI t then 1 else 0) := by
    unfold tt_add
    rw [if_neg hn]
    rcases hO with ⟨w, -⟩ | ⟨o, w1, w2, -⟩
    · have hne : ¬ op = nI t := fun z => tt_nIx (p := t) (by omega) (by rw [← z]; exact w)
      rw [if_pos (by rw [w]; decide), n2, if_neg hne]
      simp
    · rw [w2, if_neg (nI_pos (by omega)), if_neg (nI_ge w1 (by omega)), nI_clamp (by omega), tt_set_get]
      rw [← w2, n2 t, n2 o]
      by_cases q : t = o
      · subst q
        rw [if_pos ⟨rfl, rfl⟩, if_neg (by omega), if_pos w2]
      · rw [if_neg (fun z => q z.2), w2, if_neg (fun z => q ((nI_eq (by omega) (by omega)).mp z).symm)]
        simp
  rw [a3, a2, n3]
  rcases Nat.lt_or_ge t n with q | q
  · have hh := h t q
    rw [if_neg (by omega), if_neg (by omega), tm_ct_s c _ (t + 1) (Nat.le_refl _) (by omega), en, hh.2]
    refine ⟨hh.1, ?_⟩
    split
    · exact nI_1 _
    · simp
  · have : t = n := by omega
    subst this
    rw [if_pos rfl, if_pos rfl, tm_ct_out (by omega), if_neg (fun z => ?_)]
    · exact ⟨rfl, rfl⟩
    · rcases hO with ⟨w, -⟩ | ⟨o, w1, w2, -⟩
      · exact tt_nIx (p := t) (by omega) (by rw [← z]; exact w)
      · have := (nI_eq (a := o) (b := t) (by omega) (by omega)).mp (w2.symm.trans z)
        omega
