/-! Lengths and parts in the reference. -/
theorem tm_nl_ok {f : Nat → Int32} {n y : Nat} : ∀ (m j : Nat) (D : Nat → Nat) (d : Nat), y - j ≤ m → (∀ k, j ≤ k → k < y → tm_dv f n k ≤ 9) → d ≤ 66 → (∀ k, k < d → D k < 65536) → (tm_nl f n y j (D, d)).2.2 ≤ 67 ∧ ∀ k, k < (tm_nl f n y j (D, d)).2.2 → (tm_nl f n y j (D, d)).2.1 k < 65536 := by
  intro m
  induction m with
  | zero =>
    intro j D d h1 h2 h3 h4
    rw [tm_nl, dif_neg (by omega)]
    exact ⟨by show d ≤ 67; omega, h4⟩
  | succ m ih =>
    intro j D d h1 h2 h3 h4
    rw [tm_nl]
    split
    · rename_i hj
      have hs := tm_step_ok h4 (h2 j (Nat.le_refl _) hj)
      have hd : (tm_step (D, d) (tm_dv f n j)).2 ≤ d + 1 := by
        unfold tm_step
        split
        · show d ≤ d + 1; omega
        · exact Nat.le_refl _
      split
      · exact ⟨by show (tm_step (D, d) (tm_dv f n j)).2 ≤ 67; omega, hs⟩
      · rename_i h6
        exact ih (j + 1) (tm_step (D, d) (tm_dv f n j)).1 (tm_step (D, d) (tm_dv f n j)).2 (by omega) (fun k a b => h2 k (by omega) b) (Nat.le_of_not_lt h6) hs
    · exact ⟨by show d ≤ 67; omega, h4⟩
theorem tm_dv9 {f : Nat → Int32} {n j y : Nat} (h : ∀ k, j ≤ k → k < y → tt_dig (tt_ch f n k) = true) : ∀ k, j ≤ k → k < y → tm_dv f n k ≤ 9 := fun k a b => (tt_dvc (h k a b)).2
theorem tm_nlN {f : Nat → Int32} {n x y : Nat} {dg : Nat → Nat} (h : ∀ k, tm_st0 f n x ≤ k → k < y → tt_dig (tt_ch f n k) = true) : (tm_nl f n y (tm_st0 f n x) (dg, 0)).2.2 ≤ 67 ∧ ∀ k, k < (tm_nl f n y (tm_st0 f n x) (dg, 0)).2.2 → (tm_nl f n y (tm_st0 f n x) (dg, 0)).2.1 k < 65536 := tm_nl_ok _ _ _ _ (Nat.le_refl _) (tm_dv9 h) (by omega) (fun k z => absurd z (by omega))
theorem tm_bits16 {D : Nat → Nat} {d : Nat} (hD : ∀ k, k < d → D k < 65536) : tm_bits D d ≤ 16 * d := by
  unfold tm_bits
  split
  · omega
  · have := tm_bl_le 16 (D (d - 1)) (hD (d - 1) (by omega))
    omega
theorem tm_cA_in {f : Nat → Int32} {n e : Nat} : ∀ (q k : Nat), q < tt_sl f n e k → tm_cA f n e q k < e := by
  intro q
  induction q with
  | zero =>
    intro k h
    show k < e
    rcases Nat.lt_or_ge k e with z | z
    · exact z
    · rw [tt_sl_out (by omega)] at h
      omega
  | succ q ih =>
    intro k h
    rcases Nat.lt_or_ge k e with z | z
    · rw [tm_cA, if_pos z]
      rw [tt_sl_in z] at h
      exact ih _ (by omega)
    · rw [tt_sl_out (by omega)] at h
      omega
def tm_sv (f : Nat → Int32) (n k : Nat) : Int32 := if tt_ch f n k = 92 then (if f (k + 1) = 110 then 10 else f (k + 1)) else f k
theorem tt_i16 {i : Int32} (h : ¬ i < 0) : i / 16 = nI (i.toNatClampNeg / 16) := by
  obtain ⟨j, hj, rfl⟩ := nI_of h
  rw [nI_clamp hj]
  exact pk_div (a := j) (d := 16) hj (by decide) (by decide)
theorem tt_r16 {i : Int32} (h : ¬ i < 0) : i - i / 16 * 16 = nI (i.toNatClampNeg % 16) := by
  obtain ⟨j, hj, rfl⟩ := nI_of h
  rw [nI_clamp hj]
  exact pk_rem (a := j) (d := 16) hj (by decide) (by decide)
theorem tt_ss : ∀ n, n < 32 → ((nI n &&& 31).toBitVec.smod 32).toNat = n := by decide +kernel
theorem tt_shr {a k : Nat} (ha : a < 2 ^ 31) (hk : k < 32) : nI a >>> (nI k &&& 31) = nI (a / 2 ^ k) := pk_shrN ha (nI k &&& 31) k (tt_ss k hk)
theorem tt_isn {i : Int32} (h : ¬ i < 0) : i = nI i.toNatClampNeg ∧ i.toNatClampNeg < 2 ^ 31 := by
  obtain ⟨j, hj, rfl⟩ := nI_of h
  rw [nI_clamp hj]
  exact ⟨rfl, hj⟩
theorem tt_sl_le (f : Nat → Int32) (n e k : Nat) : tt_sl f n e k ≤ e - k := by
  have : ∀ (m k : Nat), e - k ≤ m → tt_sl f n e k ≤ e - k := by
    intro m
    induction m with
    | zero => intro k h; rw [tt_sl_out (by omega)]; omega
    | succ m ih =>
      intro k h
      rcases Nat.lt_or_ge k e with z | z
      · rw [tt_sl_in z]
        have b : k + 1 ≤ tt_nx f n k := by unfold tt_nx; split <;> omega
        have := ih (tt_nx f n k) (by omega)
        omega
      · rw [tt_sl_out (by omega)]
        omega
  exact this _ k (Nat.le_refl _)
