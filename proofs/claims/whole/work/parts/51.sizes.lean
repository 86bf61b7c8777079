/-! The sizes that the class sums up. -/
theorem tt_sw_eq {P : Nat → Bool} {M m : Nat} : ∀ (k i : Nat), m - i ≤ k → i ≤ m → m ≤ M → (∀ z, i ≤ z → z < m → P z = true) → (m < M → P m = false) → tt_sw P M i = m := by
  intro k
  induction k with
  | zero =>
    intro i h1 h2 h3 h4 h5
    have : i = m := by omega
    subst this
    refine tt_sw_out (fun z => ?_)
    rw [h5 z.1] at z
    exact Bool.noConfusion z.2
  | succ k ih =>
    intro i h1 h2 h3 h4 h5
    rcases Nat.eq_or_lt_of_le h2 with e | e
    · subst e
      refine tt_sw_out (fun z => ?_)
      rw [h5 z.1] at z
      exact Bool.noConfusion z.2
    · rw [← tt_sw_in (by omega) (h4 i (Nat.le_refl _) e)]
      exact ih (i + 1) (by omega) e h3 (fun z a b => h4 z (by omega) b) h5
def tt_nc (g : Nat → Int32) (n k t : Nat) : Nat := tt_sw (fun d => !decide (g d = nI t)) (t + tm_sz g n t t) (max (k + 1) (t + 1))
def tt_wk (g : Nat → Int32) (n k t : Nat) : Nat := 1 + (t + tm_sz g n t t - tt_nc g n k t)
section
variable {g : Nat → Int32} {n t k y : Nat}
theorem tt_wk_top (hn : n ≤ 4096) (hT : tt_Tr g n) (ht : t < n) : tt_wk g n (n - 1) t = 1 := by
  have s := tm_sz_sub hn hT ht
  have b := (tt_swb (fun d => !decide (g d = nI t)) (t + tm_sz g n t t) (max (n - 1 + 1) (t + 1))).1
  unfold tt_wk tt_nc
  omega
theorem tt_wk_all (hn : n ≤ 4096) (hT : tt_Tr g n) (ht : t < n) (hk : k ≤ t) : tt_wk g n k t = tm_sz g n t t := by
  have s := tm_sz_sub hn hT ht
  have e : tt_nc g n k t = t + 1 := by
    unfold tt_nc
    rw [show max (k + 1) (t + 1) = t + 1 by omega]
    refine tt_sw_out (fun z => ?_)
    have a := tt_ch_first hn hT ht (by omega)
    have := z.2
    simp [a] at this
  unfold tt_wk
  rw [e]
  omega
theorem tt_wk_par (hn : n ≤ 4096) (hT : tt_Tr g n) (hk : k + 1 < n) (hy : y < k + 1) (h : g (k + 1) = nI y) : tt_wk g n k y = tt_wk g n (k + 1) y + tm_sz g n (k + 1) (k + 1) := by
  have s := tm_sz_sub hn hT (show y < n by omega)
  have s2 := tm_sz_sub hn hT hk
  have r := tt_ch_rng2 hn hT (show y < n by omega) hk h
  have sb := tt_ch_sub hn hT (show y < n by omega) hk h hy
  have e1 : tt_nc g n k y = k + 1 := by
    unfold tt_nc
    rw [show max (k + 1) (y + 1) = k + 1 by omega]
    refine tt_sw_out (fun z => ?_)
    have := z.2
    simp [h] at this
  have e2 : tt_nc g n (k + 1) y = k + 1 + tm_sz g n (k + 1) (k + 1) := by
    unfold tt_nc
    rw [show max (k + 1 + 1) (y + 1) = k + 1 + 1 by omega]
    refine tt_sw_eq _ _ (Nat.le_refl _) (by omega) sb (fun z a b => ?_) (fun a => ?_)
    · have := tt_ch_none hn hT hk h hy z (by omega) b
      simp [this]
    · have := tt_ch_next hn hT (show y < n by omega) hk h hy a
      simp [this]
  unfold tt_wk
  rw [e1, e2]
  omega
theorem tt_wk_oth (hn : n ≤ 4096) (ht : t < n) (hk : k + 1 < n) (h : ¬ g (k + 1) = nI t) : tt_wk g n k t = tt_wk g n (k + 1) t := by
  unfold tt_wk tt_nc
  rcases Nat.lt_or_ge t (k + 1) with q | q
  · rw [show max (k + 1) (t + 1) = k + 1 by omega, show max (k + 1 + 1) (t + 1) = k + 1 + 1 by omega]
    rcases Nat.lt_or_ge (k + 1) (t + tm_sz g n t t) with w | w
    · rw [← tt_sw_in w (by simp [h])]
    · have a := (tt_swb (fun d => !decide (g d = nI t)) (t + tm_sz g n t t) (k + 1)).1
      have b := (tt_swb (fun d => !decide (g d = nI t)) (t + tm_sz g n t t) (k + 1 + 1)).1
      omega
  · rw [show max (k + 1) (t + 1) = t + 1 by omega, show max (k + 1 + 1) (t + 1) = t + 1 by omega]
end
theorem tt_up_sz {n : Nat} (hn : n ≤ 4096) : ∀ (k : Nat) (r : Nat → Nat → Int32), tt_Tr (r 1) n → k < n → (∀ t, t < n → r 3 t = nI (tt_wk (r 1) n k t)) → ∀ t, t < n → tt_up n k r 3 t = nI (tm_sz (r 1) n t t) := by
  intro k
  induction k with
  | zero =>
    intro r hT hk h t ht
    rw [tt_up, h t ht, tt_wk_all hn hT ht (Nat.zero_le _)]
  | succ k ih =>
    intro r hT hk h t ht
    rw [tt_up]
    rcases hT (k + 1) hk with ⟨w, -⟩ | ⟨w1, y, w2, w3, w4⟩
    · omega
    · have e : tt_upStep r n (k + 1) = tt_set r 3 y (r 3 y + r 3 (k + 1)) := by
        unfold tt_upStep
        rw [w3, if_pos (tm_has (by omega) hn), nI_clamp (by omega)]
      have e1 : tt_upStep r n (k + 1) 1 = r 1 := by
        rw [e]
        funext b
        rw [tt_set_get, if_neg (fun z => absurd z.1 (by decide))]
      have := ih (tt_upStep r n (k + 1)) (by rw [e1]; exact hT) (by omega) (fun z hz => ?_) t ht
      · rw [e1] at this
        exact this
      · rw [e1, e, tt_set_get]
        by_cases q : z = y
        · subst q
          rw [if_pos ⟨rfl, rfl⟩, h z hz, h (k + 1) hk, tt_wk_all hn hT hk (Nat.le_refl _), nI_add, tt_wk_par hn hT hk w2 w3]
        · rw [if_neg (fun w => q w.2), h z hz, tt_wk_oth hn hz hk (fun w => q ((nI_eq (by omega) (by omega)).mp (w3.symm.trans w)).symm)]
/-- row 3 behind a reading -/
theorem tt_up_szN {n : Nat} {r : Nat → Nat → Int32} (hn : n ≤ 4096) (hT : tt_Tr (r 1) n) (h : ∀ t, t < n → r 3 t = 1) : ∀ t, t < n → tt_up n (n - 1) r 3 t = nI (tm_sz (r 1) n t t) := fun t ht =>
  tt_up_sz hn (n - 1) r hT (by omega) (fun z hz => by rw [tt_wk_top hn hT hz, h z hz]; rfl) t ht
