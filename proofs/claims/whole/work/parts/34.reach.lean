/-! The reading as a run of steps: what is reached, where it is refused; the reference's tokens and rows beside the class's. -/
def tt_R (f : Nat → Int32) (n j : Nat) (σ : tt_S) (j' : Nat) (σ' : tt_S) : Prop := ∃ k, k + j ≤ j' ∧ ∀ m, tt_run f n (m + k) j σ = tt_run f n m j' σ'
def tt_F (f : Nat → Int32) (n j : Nat) (σ : tt_S) (p : Nat) : Prop := p ≤ n ∧ ∃ k, k + j ≤ n + 1 ∧ ∀ m, (tt_run f n (m + k) j σ).1 = nI p
theorem tt_R.refl {f : Nat → Int32} {n j : Nat} {σ : tt_S} : tt_R f n j σ j σ := ⟨0, by omega, fun _ => rfl⟩
theorem tt_R.trans {f : Nat → Int32} {n j1 j2 j3 : Nat} {a b c : tt_S} (h1 : tt_R f n j1 a j2 b) (h2 : tt_R f n j2 b j3 c) : tt_R f n j1 a j3 c := by
  obtain ⟨k1, e1, g1⟩ := h1
  obtain ⟨k2, e2, g2⟩ := h2
  refine ⟨k2 + k1, by omega, fun m => ?_⟩
  rw [← Nat.add_assoc, g1, g2]
theorem tt_R.fail {f : Nat → Int32} {n j1 j2 p : Nat} {a b : tt_S} (h1 : tt_R f n j1 a j2 b) (h2 : tt_F f n j2 b p) : tt_F f n j1 a p := by
  obtain ⟨k1, e1, g1⟩ := h1
  obtain ⟨hp, k2, e2, g2⟩ := h2
  refine ⟨hp, k2 + k1, by omega, fun m => ?_⟩
  rw [← Nat.add_assoc, g1, g2]
theorem tt_bl_n {f : Nat → Int32} {n j : Nat} (h : j ≤ n) : j ≤ tt_bl f n false j ∧ tt_bl f n false j ≤ n := by
  have := tt_blb f n false j
  omega
/-- one token is taken -/
theorem tt_R.step {f : Nat → Int32} {n j : Nat} {σ σ2 : tt_S} (hj : j ≤ n) (h8 : ¬ tt_tok f n (tt_bl f n false j) = 8) (ht : tt_take' f n (tt_tok f n (tt_bl f n false j)) (tt_bl f n false j) (tt_to f n (tt_bl f n false j)) (tt_clIt (tt_tok f n (tt_bl f n false j)) σ) = (true, σ2)) : tt_R f n j σ (tt_to f n (tt_bl f n false j)) σ2 ∧ tt_to f n (tt_bl f n false j) ≤ n := by
  have h7 : ¬ tt_tok f n (tt_bl f n false j) = 7 := by
    intro z
    have := tt_take7 (b := tt_big f n (tt_bl f n false j) (tt_to f n (tt_bl f n false j))) (i := tt_bl f n false j) (j := tt_to f n (tt_bl f n false j)) (σ := tt_clIt (tt_tok f n (tt_bl f n false j)) σ)
    rw [← z] at this
    rw [show tt_take _ _ _ _ _ = (true, σ2) from ht] at this
    exact Bool.noConfusion this
  have hr := tt_to_rng h7 h8
  have hb := tt_bl_n (f := f) hj
  refine ⟨⟨1, by omega, fun m => ?_⟩, hr.2⟩
  rw [tt_run, if_neg h8, ht]
  rfl
/-- a token that is refused, or an end that comes too early -/
theorem tt_F.step {f : Nat → Int32} {n j : Nat} {σ : tt_S} (hj : j ≤ n) (h8 : tt_tok f n (tt_bl f n false j) = 8 → ¬ ((tt_clIt 8 σ).2.2.1 = -1 ∧ (tt_clIt 8 σ).2.2.2.2 = 1)) (ht : ¬ tt_tok f n (tt_bl f n false j) = 8 → (tt_take' f n (tt_tok f n (tt_bl f n false j)) (tt_bl f n false j) (tt_to f n (tt_bl f n false j)) (tt_clIt (tt_tok f n (tt_bl f n false j)) σ)).1 = false) : tt_F f n j σ (tt_bl f n false j) := by
  have hb := tt_bl_n (f := f) hj
  refine ⟨hb.2, 1, by omega, fun m => ?_⟩
  rw [tt_run]
  by_cases z : tt_tok f n (tt_bl f n false j) = 8
  · rw [if_pos z, tt_fin, if_neg (h8 z)]
    have : ¬ tt_bl f n false j < n := by
      intro q
      have c1 : ¬ tt_ch f n (tt_bl f n false j) = -1 := fun w => by have := tt_ch_m1.mp w; omega
      unfold tt_tok at z
      rw [if_neg c1] at z
      revert z
      split
      · decide
      split
      · split <;> decide
      split
      · split <;> decide
      split
      · split <;> decide
      split
      · split <;> decide
      split
      · rename_i g
        intro z
        rw [z] at g
        exact absurd g (by decide)
      · decide
    show nI n = nI (tt_bl f n false j)
    rw [show tt_bl f n false j = n by omega]
  · rw [if_neg z, if_neg (by rw [ht z]; decide)]
theorem tt_cl_other {tk : Int32} {σ : tt_S} (h1 : ¬ tk = 59) (h2 : ¬ tk = 125) (h3 : ¬ tk = 8) : tt_clIt tk σ = σ := by
  unfold tt_clIt
  rw [if_neg]
  rintro ⟨h | h | h, -⟩
  · exact h1 h
  · exact h2 h
  · exact h3 h
/-! tokens -/
def tm_map (t : Int32) : Int32 := if t = 5 then 4 else if t = 8 then 5 else t
theorem tm_ste_eq {f : Nat → Int32} {n : Nat} : ∀ (m k : Nat), n - k ≤ m → ¬ tt_str f n k = 0 → tm_ste f n k = tt_str f n k := by
  intro m
  induction m with
  | zero =>
    intro k h z
    rw [tt_str, dif_neg (by omega)] at z
    exact absurd rfl z
  | succ m ih =>
    intro k h z
    rcases Nat.lt_or_ge k n with hk | hk
    · rw [tt_str, dif_pos hk] at z ⊢
      rw [tm_ste, dif_pos hk]
      by_cases c1 : tt_ch f n k = 34
      · rw [if_pos c1, if_pos c1]
      · rw [if_neg c1] at z ⊢
        rw [if_neg c1]
        by_cases c2 : tt_sts (tt_ch f n k) = true
        · rw [if_pos c2] at z ⊢
          have c3 := c2
          simp only [tt_sts, Bool.and_eq_true, Bool.not_eq_true', decide_eq_false_iff_not] at c3
          rw [if_neg (fun w => c3.2 w.1), if_pos ⟨c3.1.1.1, c3.1.1.2, c3.2⟩]
          exact ih (k + 1) (by omega) z
        · rw [if_neg c2] at z ⊢
          by_cases c4 : tt_ch f n k = 92 ∧ ¬ tt_esc (tt_ch f n (k + 1)) = -1
          · rw [if_pos c4] at z ⊢
            rw [if_pos ⟨c4.1, tt_esc_or c4.2⟩]
            exact ih (k + 2) (by omega) z
          · rw [if_neg c4] at z
            exact absurd rfl z
    · rw [tt_str, dif_neg (by omega)] at z
      exact absurd rfl z
