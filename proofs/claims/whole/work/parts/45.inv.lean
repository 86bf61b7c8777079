/-! What every step keeps holds of what a reading leaves. -/
theorem tt_nIx {p : Nat} (h : p ≤ 16384) : ¬ nI p = -1 := fun z => nI_pos (show p < 2 ^ 31 by omega) (by rw [z]; decide)
theorem tt_fin_inv {n : Nat} {σ : tt_S} (hn : n ≤ 16384) (h : (tt_fin n σ).1 = -1) : σ.2.2.1 = -1 ∧ σ.2.2.2.2 = 1 ∧ (tt_fin n σ).2 = (tt_up σ.2.1 (σ.2.1 - 1) σ.1, σ.2) := by
  unfold tt_fin at h ⊢
  by_cases q : σ.2.2.1 = -1 ∧ σ.2.2.2.2 = 1
  · rw [if_pos q]
    exact ⟨q.1, q.2, rfl⟩
  · rw [if_neg q] at h
    exact absurd h (tt_nIx hn)
theorem tt_run_inv {f : Nat → Int32} {n : Nat} {P : tt_S → Prop} (hn : n ≤ 16384) (hc : ∀ (tk : Int32) (σ : tt_S), P σ → P (tt_clIt tk σ)) (ht : ∀ (i : Nat) (σ : tt_S), i ≤ n → ¬ tt_tok f n i = 8 → ¬ tt_tok f n i = 7 → P σ → (tt_take' f n (tt_tok f n i) i (tt_to f n i) σ).1 = true → P (tt_take' f n (tt_tok f n i) i (tt_to f n i) σ).2) :
    ∀ (m j : Nat) (σ : tt_S), j ≤ n → P σ → (tt_run f n m j σ).1 = -1 → ∃ σ' : tt_S, P σ' ∧ σ'.2.2.1 = -1 ∧ σ'.2.2.2.2 = 1 ∧ (tt_run f n m j σ).2 = (tt_up σ'.2.1 (σ'.2.1 - 1) σ'.1, σ'.2) := by
  intro m
  induction m with
  | zero =>
    intro j σ hj hP h
    rw [tt_run] at h ⊢
    exact ⟨σ, hP, tt_fin_inv hn h⟩
  | succ m ih =>
    intro j σ hj hP h
    have hb := tt_bl_n (f := f) hj
    rw [tt_run] at h ⊢
    by_cases z : tt_tok f n (tt_bl f n false j) = 8
    · rw [if_pos z] at h ⊢
      exact ⟨_, hc 8 σ hP, tt_fin_inv hn h⟩
    · rw [if_neg z] at h ⊢
      by_cases q : (tt_take' f n (tt_tok f n (tt_bl f n false j)) (tt_bl f n false j) (tt_to f n (tt_bl f n false j)) (tt_clIt (tt_tok f n (tt_bl f n false j)) σ)).1 = true
      · rw [if_pos q] at h ⊢
        have h7 : ¬ tt_tok f n (tt_bl f n false j) = 7 := by
          intro w
          have := tt_take7 (b := tt_big f n (tt_bl f n false j) (tt_to f n (tt_bl f n false j))) (i := tt_bl f n false j) (j := tt_to f n (tt_bl f n false j)) (σ := tt_clIt (tt_tok f n (tt_bl f n false j)) σ)
          rw [← w] at this
          rw [show (tt_take _ _ _ _ _).1 = true from q] at this
          exact Bool.noConfusion this
        exact ih _ _ (tt_to_rng h7 z).2 (ht _ _ hb.2 z h7 (hc _ σ hP) q) h
      · rw [if_neg q] at h
        exact absurd (show nI (tt_bl f n false j) = -1 from h) (tt_nIx (by omega))
/-- of the whole reading -/
theorem tt_rd_inv {f : Nat → Int32} {n : Nat} {P : tt_S → Prop} {r : Nat → Nat → Int32} (hn : n ≤ 16384) (hc : ∀ (tk : Int32) (σ : tt_S), P σ → P (tt_clIt tk σ)) (ht : ∀ (i : Nat) (σ : tt_S), i ≤ n → ¬ tt_tok f n i = 8 → ¬ tt_tok f n i = 7 → P σ → (tt_take' f n (tt_tok f n i) i (tt_to f n i) σ).1 = true → P (tt_take' f n (tt_tok f n i) i (tt_to f n i) σ).2) (h0 : P (r, 0, -1, 0, 0)) (h : tt_rdA f n r = -1) :
    ∃ r' : Nat → Nat → Int32, P (r', tt_rdN f n r, (tt_rdS f n r).2.2) ∧ (tt_rdS f n r).1 = tt_up (tt_rdN f n r) (tt_rdN f n r - 1) r' := by
  obtain ⟨σ', h1, -, -, h2⟩ := tt_run_inv hn hc ht (n + 1) 0 (r, 0, -1, 0, 0) (Nat.zero_le _) h0 h
  have e : tt_rdS f n r = (tt_up σ'.2.1 (σ'.2.1 - 1) σ'.1, σ'.2) := h2
  have e2 : tt_rdN f n r = σ'.2.1 := by
    unfold tt_rdN
    rw [if_pos h, e]
  refine ⟨σ'.1, ?_, ?_⟩
  · rw [e2, e]
    exact h1
  · rw [e, e2]
