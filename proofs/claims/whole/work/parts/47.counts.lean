/-! How many terms stand in a term. -/
theorem tm_ct_out {g : Nat → Int32} {n t c : Nat} (h : ¬ c < n) : tm_ct g n t c = 0 := by rw [tm_ct, dif_neg h]
theorem tm_ct_in {g : Nat → Int32} {n t c : Nat} (h : c < n) : tm_ct g n t c = (if g c = nI t then 1 else 0) + tm_ct g n t (c + 1) := by rw [tm_ct, dif_pos h]
theorem tm_ct_s {g g' : Nat → Int32} {n t : Nat} (e : ∀ z, z < n → g' z = g z) : ∀ (m c : Nat), n - c ≤ m → c ≤ n → tm_ct g' (n + 1) t c = tm_ct g n t c + (if g' n = nI t then 1 else 0) := by
  intro m
  induction m with
  | zero =>
    intro c h1 h2
    have : c = n := by omega
    subst this
    rw [tm_ct_in (by omega), tm_ct_out (n := c + 1) (by omega), tm_ct_out (by omega)]
    omega
  | succ m ih =>
    intro c h1 h2
    rcases Nat.lt_or_ge c n with q | q
    · rw [tm_ct_in (by omega), ih (c + 1) (by omega) (by omega), tm_ct_in q, e c q]
      omega
    · have : c = n := by omega
      subst this
      rw [tm_ct_in (by omega), tm_ct_out (n := c + 1) (by omega), tm_ct_out (by omega)]
      omega
