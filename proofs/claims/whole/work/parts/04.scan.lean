/-! Laws of the scanner's words. -/
theorem tt_ch_cases (f : Nat → Int32) (n i : Nat) : (n ≤ i ∧ tt_ch f n i = -1) ∨ (i < n ∧ ∃ k, k < 256 ∧ tt_ch f n i = nI k) := by
  unfold tt_ch
  by_cases h : i < n
  · rw [if_pos h]
    obtain ⟨j, hj, e⟩ := pk_andE (f i) (m := 255) 8 (by decide)
    exact Or.inr ⟨h, j, hj, e⟩
  · rw [if_neg h]
    exact Or.inl ⟨by omega, rfl⟩
theorem tt_m1n : ∀ k, k < 256 → ¬ nI k = -1 := by decide +kernel
theorem tt_ch_m1 {f : Nat → Int32} {n i : Nat} : tt_ch f n i = -1 ↔ n ≤ i := by
  rcases tt_ch_cases f n i with ⟨h, e⟩ | ⟨h, k, hk, e⟩
  · exact ⟨fun _ => h, fun _ => e⟩
  · rw [e]
    exact ⟨fun z => absurd z (tt_m1n k hk), fun z => by omega⟩
theorem tt_ch_in {f : Nat → Int32} {n i : Nat} (h : ¬ tt_ch f n i = -1) : i < n := by
  rcases Nat.lt_or_ge i n with q | q
  · exact q
  · exact absurd (tt_ch_m1.mpr q) h
theorem tt_P_in {f : Nat → Int32} {n : Nat} {p : Int32 → Bool} (hp : p (-1) = false) : ∀ j, p (tt_ch f n j) = true → j < n := by
  intro j h
  refine tt_ch_in (f := f) (fun z => ?_)
  rw [z, hp] at h
  exact absurd h (by decide)
theorem tt_sw_capk {P : Nat → Bool} {n M : Nat} (hP : ∀ j, P j = true → j < n) : ∀ (k i : Nat), M - i ≤ k → i ≤ M → tt_sw P M i = min (tt_sw P n i) M := by
  intro k
  induction k with
  | zero =>
    intro i h hi
    have e : i = M := by omega
    subst e
    rw [tt_sw_out (fun z => by omega)]
    have := tt_sw_lo (P := P) (n := n) (i := i)
    omega
  | succ k ih =>
    intro i h hi
    by_cases hp : P i = true
    · by_cases hM : i < M
      · rw [← tt_sw_in hM hp, ← tt_sw_in (hP i hp) hp]
        exact ih (i + 1) (by omega) hM
      · rw [tt_sw_out (fun z => hM z.1)]
        have := tt_sw_lo (P := P) (n := n) (i := i)
        omega
    · rw [tt_sw_out (fun z => hp z.2), tt_sw_out (fun z => hp z.2)]
      omega
theorem tt_sw_cap {P : Nat → Bool} {n M i : Nat} (hP : ∀ j, P j = true → j < n) (hi : i ≤ M) : tt_sw P M i = min (tt_sw P n i) M := tt_sw_capk hP (M - i) i (Nat.le_refl _) hi
theorem tt_sw_mem {P : Nat → Bool} {n : Nat} : ∀ (k i j : Nat), n - i ≤ k → i ≤ j → j < tt_sw P n i → j < n ∧ P j = true := by
  intro k
  induction k with
  | zero =>
    intro i j h h1 h2
    rw [tt_sw_out (fun z => by omega)] at h2
    omega
  | succ k ih =>
    intro i j h h1 h2
    by_cases z : i < n ∧ P i = true
    · rcases Nat.lt_or_ge i j with q | q
      · rw [← tt_sw_in z.1 z.2] at h2
        exact ih (i + 1) j (by omega) q h2
      · have e : i = j := by omega
        subst e
        exact z
    · rw [tt_sw_out z] at h2
      omega
/-- a token that is one has a byte at least and ends within the text -/
theorem tt_to_rng {f : Nat → Int32} {n i : Nat} (h7 : ¬ tt_tok f n i = 7) (h8 : ¬ tt_tok f n i = 8) : i < tt_to f n i ∧ tt_to f n i ≤ n := by
  unfold tt_tok at h7 h8
  unfold tt_to
  by_cases c1 : tt_ch f n i = -1
  · rw [if_pos c1] at h8
    exact absurd rfl h8
  have hin := tt_ch_in c1
  rw [if_neg c1] at h7 ⊢
  by_cases c2 : tt_let (tt_ch f n i) = true
  · rw [if_pos c2]
    have hw : tt_wd (tt_ch f n i) = true := by simp [tt_wd, c2]
    have a := tt_sw_in (P := fun j => tt_wd (tt_ch f n j)) hin hw
    have b := tt_sw_lo (P := fun j => tt_wd (tt_ch f n j)) (n := n) (i := i + 1)
    have d := tt_sw_hi (P := fun j => tt_wd (tt_ch f n j)) (n := n) (i := i)
    omega
  rw [if_neg c2] at h7 ⊢
  by_cases c3 : tt_ch f n i = 48 ∧ tt_ch f n (i + 1) = 120
  · rw [if_pos c3]
    have h2 : i + 1 < n := tt_ch_in (by rw [c3.2]; decide)
    have b := tt_sw_lo (P := fun j => tt_hx (tt_ch f n j)) (n := n) (i := i + 2)
    have d := tt_sw_hi (P := fun j => tt_hx (tt_ch f n j)) (n := n) (i := i + 2)
    omega
  rw [if_neg c3] at h7 ⊢
  by_cases c4 : tt_ch f n i = 45 ∨ tt_dig (tt_ch f n i) = true
  · rw [if_pos c4]
    have b := tt_sw_lo (P := fun j => tt_dig (tt_ch f n j)) (n := n) (i := i + 1)
    have d := tt_sw_hi (P := fun j => tt_dig (tt_ch f n j)) (n := n) (i := i + 1)
    omega
  rw [if_neg c4] at h7 ⊢
  by_cases c5 : tt_ch f n i = 34
  · rw [if_pos c5] at h7 ⊢
    by_cases c6 : tt_str f n (i + 1) = 0
    · rw [if_pos c6] at h7
      exact absurd rfl h7
    · rw [if_neg c6]
      have := tt_str_rng (f := f) (n := n) _ (i + 1) (Nat.le_refl _)
      omega
  rw [if_neg c5] at h7 ⊢
  by_cases c7 : tt_ch f n i = 37
  · rw [if_pos c7] at h7 ⊢
    have b := tt_sw_lo (P := fun j => tt_wd (tt_ch f n j)) (n := n) (i := i + 1)
    have d := tt_sw_hi (P := fun j => tt_wd (tt_ch f n j)) (n := n) (i := i + 1)
    omega
  rw [if_neg c7] at h7 ⊢
  omega
