theorem tt_tk_ok {f : Nat → Int32} {n y : Nat} : ∀ (m j : Nat) (L : Nat → Nat) (u sc v : Nat), y - j ≤ m → (∀ k, j ≤ k → k < y → tm_dv f n k ≤ 9) → u ≤ 32 → (∀ k, k < u → L k < 4294967296) → (sc = 1 ∨ sc = 10 ∨ sc = 100 ∨ sc = 1000 ∨ sc = 10000 ∨ sc = 100000 ∨ sc = 1000000 ∨ sc = 10000000 ∨ sc = 100000000) → v < sc →
    (tt_tk f n y j (L, u) sc v).2 ≤ 32 ∧ ∀ k, k < (tt_tk f n y j (L, u) sc v).2 → (tt_tk f n y j (L, u) sc v).1 k < 4294967296 := by
  intro m
  induction m with
  | zero =>
    intro j L u sc v h1 h2 h3 h4 h5 h6
    rw [tt_tk, dif_neg (by omega)]
    exact ⟨h3, h4⟩
  | succ m ih =>
    intro j L u sc v h1 h2 h3 h4 h5 h6
    rw [tt_tk]
    split
    · rename_i hj
      have hd := h2 j (Nat.le_refl _) hj
      split
      · have hs := tt_ma_ok h4 (a := sc * 10) (b := v * 10 + tm_dv f n j) (by omega) (by omega) h3
        exact ih (j + 1) (tt_ma (L, u) (sc * 10) (v * 10 + tm_dv f n j)).1 (tt_ma (L, u) (sc * 10) (v * 10 + tm_dv f n j)).2 1 0 (by omega) (fun k a b => h2 k (by omega) b) hs.2 hs.1 (Or.inl rfl) (by omega)
      · rename_i hq
        exact ih (j + 1) L u (sc * 10) (v * 10 + tm_dv f n j) (by omega) (fun k a b => h2 k (by omega) b) h3 h4 (by omega) (by omega)
    · exact ⟨h3, h4⟩
theorem tt_tkN {f : Nat → Int32} {n x y : Nat} {L : Nat → Nat} (h : ∀ k, tm_st0 f n x ≤ k → k < y → tt_dig (tt_ch f n k) = true) : (tt_tk f n y (tt_fd f n x y) (L, 0) 1 0).2 ≤ 32 ∧ ∀ k, k < (tt_tk f n y (tt_fd f n x y) (L, 0) 1 0).2 → (tt_tk f n y (tt_fd f n x y) (L, 0) 1 0).1 k < 4294967296 :=
  tt_tk_ok _ _ _ _ _ _ (Nat.le_refl _) (fun k a b => tm_dv9 h k (Nat.le_trans (tm_fd_st f n x y) a) b) (by omega) (fun k z => absurd z (by omega)) (Or.inl rfl) (by omega)
