/-! Laws of one step of the reading, for its loop. -/
def tt_rs (f : Nat → Int32) (n : Nat) : Nat → Nat → tt_S → Int32 × Nat × Nat → Int32 × Nat × Nat
  | 0, _, _, z => z
  | k + 1, j, σ, _ =>
    if tt_tok f n (tt_bl f n false j) = 8 then (8, tt_bl f n false j, tt_to f n (tt_bl f n false j))
    else if (tt_take' f n (tt_tok f n (tt_bl f n false j)) (tt_bl f n false j) (tt_to f n (tt_bl f n false j)) (tt_clIt (tt_tok f n (tt_bl f n false j)) σ)).1 = true
    then tt_rs f n k (tt_to f n (tt_bl f n false j)) (tt_take' f n (tt_tok f n (tt_bl f n false j)) (tt_bl f n false j) (tt_to f n (tt_bl f n false j)) (tt_clIt (tt_tok f n (tt_bl f n false j)) σ)).2 (tt_tok f n (tt_bl f n false j), tt_bl f n false j, tt_to f n (tt_bl f n false j))
    else (tt_tok f n (tt_bl f n false j), tt_bl f n false j, tt_to f n (tt_bl f n false j))
theorem tt_tup5 {σ : tt_S} {r : Nat → Nat → Int32} {n : Nat} {a b c : Int32} (h1 : σ.1 = r) (h2 : σ.2.1 = n) (h3 : σ.2.2.1 = a) (h4 : σ.2.2.2.1 = b) (h5 : σ.2.2.2.2 = c) : σ = (r, n, a, b, c) := by
  obtain ⟨x1, x2, x3, x4, x5⟩ := σ
  simp only at h1 h2 h3 h4 h5
  rw [h1, h2, h3, h4, h5]
theorem tt_tup6 {σ : Bool × tt_S} {q : Bool} {r : Nat → Nat → Int32} {n : Nat} {a b c : Int32} (h0 : σ.1 = q) (h1 : σ.2.1 = r) (h2 : σ.2.2.1 = n) (h3 : σ.2.2.2.1 = a) (h4 : σ.2.2.2.2.1 = b) (h5 : σ.2.2.2.2.2 = c) : σ = (q, (r, n, a, b, c)) := by
  obtain ⟨x0, τ⟩ := σ
  rw [show τ = (r, n, a, b, c) from tt_tup5 h1 h2 h3 h4 h5]
  simp only at h0
  rw [h0]
theorem tt_cl1 (tk : Int32) (σ : tt_S) : (tt_clIt tk σ).1 = σ.1 := by
  unfold tt_clIt tt_close
  split <;> rfl
theorem tt_cl2 (tk : Int32) (σ : tt_S) : (tt_clIt tk σ).2.1 = σ.2.1 := by
  unfold tt_clIt tt_close
  split <;> rfl
theorem tt_cl0 {tk : Int32} {σ : tt_S} (h : σ.2.2.2.2 = 0) : tt_clIt tk σ = σ := by
  unfold tt_clIt
  rw [if_neg]
  rintro ⟨-, q, -⟩
  rw [h] at q
  exact absurd q (by decide)
theorem tt_addn_le {n : Nat} (h : n ≤ 4096) : tt_addn n ≤ 4096 ∧ n ≤ tt_addn n := by
  unfold tt_addn
  split <;> omega
theorem tt_aSn {k : Int32} {i j : Nat} {σ : tt_S} (h : σ.2.1 ≤ 4096) : (tt_aS k i j σ).2.1 ≤ 4096 ∧ σ.2.1 ≤ (tt_aS k i j σ).2.1 := by
  unfold tt_aS
  split
  · omega
  · exact tt_addn_le h
theorem tt_aS1 {k : Int32} {i j : Nat} {σ : tt_S} (h : σ.2.1 ≤ 4096) (ha : ¬ tt_aT k i j σ = -1) : 1 ≤ (tt_aS k i j σ).2.1 := by
  unfold tt_aT at ha
  unfold tt_aS
  split at ha
  · exact absurd rfl ha
  · rename_i q
    rw [if_neg q]
    unfold tt_addr at ha
    show 1 ≤ tt_addn σ.2.1
    unfold tt_addn
    split at ha
    · exact absurd rfl ha
    · rename_i q2
      rw [if_neg q2]
      omega
theorem tt_op_n {k d : Int32} {i j : Nat} {σ : tt_S} (h : σ.2.1 ≤ 4096) : (tt_op k d i j σ).2.2.1 ≤ 4096 ∧ ((tt_op k d i j σ).1 = true → 1 ≤ (tt_op k d i j σ).2.2.1) := by
  unfold tt_op
  split
  · exact ⟨(tt_aSn h).1, fun z => Bool.noConfusion z⟩
  · rename_i q
    exact ⟨(tt_aSn h).1, fun _ => tt_aS1 h q⟩
theorem tt_lf_n {k : Int32} {i j : Nat} {σ : tt_S} (h : σ.2.1 ≤ 4096) : (tt_lf k i j σ).2.2.1 ≤ 4096 ∧ ((tt_lf k i j σ).1 = true → 1 ≤ (tt_lf k i j σ).2.2.1) := by
  unfold tt_lf
  split
  · exact ⟨h, fun z => Bool.noConfusion z⟩
  · split
    · exact ⟨(tt_aSn h).1, fun z => Bool.noConfusion z⟩
    · rename_i q
      exact ⟨(tt_aSn h).1, fun _ => tt_aS1 h q⟩
/-- no step makes too many terms; one that is taken leaves a term at least -/
theorem tt_take_n {b : Bool} {tk : Int32} {i j : Nat} {σ : tt_S} (h : σ.2.1 ≤ 4096) (h0 : σ.2.1 = 0 → σ.2.2.1 = -1 ∧ σ.2.2.2.2 = 0) : (tt_take b tk i j σ).2.2.1 ≤ 4096 ∧ ((tt_take b tk i j σ).1 = true → 1 ≤ (tt_take b tk i j σ).2.2.1) := by
  have hF : ∀ {q : Bool × tt_S}, q = (false, σ) → q.2.2.1 ≤ 4096 ∧ (q.1 = true → 1 ≤ q.2.2.1) := fun e => by
    rw [e]
    exact ⟨h, fun z => Bool.noConfusion z⟩
  have hS : ∀ {τ : tt_S}, τ.2.1 = σ.2.1 → (σ.2.1 = 0 → False) → (true, τ).2.2.1 ≤ 4096 ∧ ((true, τ).1 = true → 1 ≤ (true, τ).2.2.1) := fun {τ} e q => by
    refine ⟨by show τ.2.1 ≤ 4096; omega, fun _ => ?_⟩
    show 1 ≤ τ.2.1
    rcases Nat.eq_zero_or_pos σ.2.1 with z | z
    · exact (q z).elim
    · omega
  unfold tt_take
  split
  · split
    · exact hF rfl
    · exact tt_lf_n h
  split
  · exact tt_lf_n h
  split
  · exact tt_lf_n h
  split
  · unfold tt_tW
    split
    · exact tt_lf_n h
    · split
      · exact tt_op_n h
      · exact hF rfl
  split
  · unfold tt_tM
    split
    · exact hF rfl
    · rename_i q
      exact hS rfl (fun z => by rw [(h0 z).2] at q; exact absurd (by decide) q)
  split
  · unfold tt_tO
    split
    · exact hF rfl
    · rename_i q
      exact hS rfl (fun z => by rw [(h0 z).2] at q; exact absurd (by decide) q)
  split
  · unfold tt_tC
    split
    · exact hF rfl
    · rename_i q
      exact hS (by unfold tt_close; rfl) (fun z => by rw [(h0 z).2] at q; exact absurd (Or.inl (by decide)) q)
  split
  · unfold tt_tS
    split
    · exact hF rfl
    · rename_i q
      exact hS rfl (fun z => by rw [(h0 z).1] at q; exact absurd (Or.inl rfl) q)
  split
  · unfold tt_tQ
    split
    · exact tt_op_n h
    · exact hF rfl
  split
  · unfold tt_tE
    split
    · exact hF rfl
    · rename_i q
      exact hS (by unfold tt_close; rfl) (fun z => by rw [(h0 z).1] at q; exact absurd (Or.inl rfl) q)
  · exact hF rfl
theorem tt_take7 {b : Bool} {i j : Nat} {σ : tt_S} : (tt_take b 7 i j σ).1 = false := rfl
theorem tt_to_hi {f : Nat → Int32} {n i : Nat} (hi : i ≤ n) : tt_to f n i ≤ n + 32 := by
  unfold tt_to
  have a1 := tt_swb (fun j => tt_wd (tt_ch f n j)) n i
  have a2 := tt_swb (fun j => tt_hx (tt_ch f n j)) n (i + 2)
  have a3 := tt_swb (fun j => tt_dig (tt_ch f n j)) n (i + 1)
  have a4 := tt_str_rng (f := f) (n := n) _ (i + 1) (Nat.le_refl _)
  split
  · omega
  split
  · omega
  split
  · omega
  split
  · omega
  split
  · split <;> omega
  split
  · omega
  · omega
