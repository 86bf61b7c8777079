/-! Counts are kept. -/
theorem tt_mkR_k (r : Nat → Nat → Int32) (n : Nat) (x : Int32) (i j a : Nat) (h6 : ¬ a = 6) (h7 : ¬ a = 7) : tt_mkR r n x i j a = r a := by
  unfold tt_mkR
  split
  · funext b
    rw [tt_set_get, if_neg (fun z => h7 z.1), tt_set_get, if_neg (fun z => h6 z.1)]
  · rfl
theorem tt_endR_k (r : Nat → Nat → Int32) (n : Nat) (x : Int32) (j a : Nat) (h5 : ¬ a = 5) : tt_endR r n x j a = r a := by
  unfold tt_endR
  split
  · funext b
    rw [tt_set_get, if_neg (fun z => h5 z.1)]
  · rfl
theorem tt_P2_cl (tk : Int32) (σ : tt_S) (h : tt_P2 σ) : tt_P2 (tt_clIt tk σ) := by
  unfold tt_clIt
  split
  · exact h
  · exact h
theorem tt_P2_lf {k : Int32} {i j : Nat} {σ : tt_S} (h1 : tt_P1 σ) (h : tt_P2 σ) : (tt_lf k i j σ).1 = true → tt_P2 (tt_lf k i j σ).2 := by
  unfold tt_lf
  split
  · intro z; exact Bool.noConfusion z
  split
  · intro z; exact Bool.noConfusion z
  · rename_i q1 q2
    intro _
    obtain ⟨a1, a2, a3, a4⟩ := tt_aT_ok q2
    rw [a4]
    exact tt_P2_add a2 h1.2.2 h
theorem tt_P2_op {k du : Int32} {i j : Nat} {σ : tt_S} (h1 : tt_P1 σ) (h : tt_P2 σ) : (tt_op k du i j σ).1 = true → tt_P2 (tt_op k du i j σ).2 := by
  unfold tt_op
  split
  · intro z; exact Bool.noConfusion z
  · rename_i q2
    intro _
    obtain ⟨a1, a2, a3, a4⟩ := tt_aT_ok q2
    rw [a3, a4]
    exact tt_P2_add a2 h1.2.2 h
theorem tt_P2_take {b : Bool} {tk : Int32} {i j : Nat} {σ : tt_S} (h1 : tt_P1 σ) (h : tt_P2 σ) : (tt_take b tk i j σ).1 = true → tt_P2 (tt_take b tk i j σ).2 := by
  refine tt_take_cases (fun R => R.1 = true → tt_P2 R.2) (fun z => Bool.noConfusion z) (fun _ => tt_P2_lf h1 h) (fun _ => tt_P2_lf h1 h) (fun _ => ?_) (fun _ => ?_) ?_ ?_ ?_ (fun _ => ?_) (fun _ => ?_)
  · unfold tt_tW
    split
    · exact tt_P2_lf h1 h
    split
    · exact tt_P2_op h1 h
    · intro z; exact Bool.noConfusion z
  · unfold tt_tM
    split
    · intro z; exact Bool.noConfusion z
    · intro _ t ht
      show tt_mkR σ.1 σ.2.1 σ.2.2.1 (i + 1) j 3 t = 1 ∧ tt_mkR σ.1 σ.2.1 σ.2.2.1 (i + 1) j 2 t = nI (tm_ct (tt_mkR σ.1 σ.2.1 σ.2.2.1 (i + 1) j 1) σ.2.1 t (t + 1))
      rw [tt_mkR_k _ _ _ _ _ 3 (by decide) (by decide), tt_mkR_k _ _ _ _ _ 2 (by decide) (by decide), tt_mkR_k _ _ _ _ _ 1 (by decide) (by decide)]
      exact h t ht
  · unfold tt_tO
    split
    · intro z; exact Bool.noConfusion z
    · intro _; exact h
  · unfold tt_tC
    split
    · intro z; exact Bool.noConfusion z
    · intro _; exact h
  · unfold tt_tS
    split
    · intro z; exact Bool.noConfusion z
    · intro _; exact h
  · unfold tt_tQ
    split
    · exact tt_P2_op h1 h
    · intro z; exact Bool.noConfusion z
  · unfold tt_tE
    split
    · intro z; exact Bool.noConfusion z
    · intro _ t ht
      show tt_endR σ.1 σ.2.1 σ.2.2.1 j 3 t = 1 ∧ tt_endR σ.1 σ.2.1 σ.2.2.1 j 2 t = nI (tm_ct (tt_endR σ.1 σ.2.1 σ.2.2.1 j 1) σ.2.1 t (t + 1))
      rw [tt_endR_k _ _ _ _ 3 (by decide), tt_endR_k _ _ _ _ 2 (by decide), tt_endR_k _ _ _ _ 1 (by decide)]
      exact h t ht
theorem tt_P2_0 (r : Nat → Nat → Int32) : tt_P2 (r, 0, -1, 0, 0) := fun t ht => absurd ht (Nat.not_lt_zero _)
