theorem tt_sgn_x : ∀ k, k < 256 → tt_sgn (nI k) = true → tt_let (nI k) = false ∧ tt_dig (nI k) = false ∧ ¬ nI k = 48 ∧ ¬ nI k = 45 ∧ ¬ nI k = 34 ∧ ¬ nI k = 37 ∧ ¬ nI k = 5 ∧ ¬ nI k = 8 ∧ ¬ nI k = 7 := by decide +kernel
theorem tt_let_x : ∀ k, k < 256 → tt_let (nI k) = true → tt_sgn (nI k) = false ∧ tt_dig (nI k) = false ∧ ¬ nI k = 48 ∧ ¬ nI k = 45 ∧ ¬ nI k = 34 := by decide +kernel
theorem tt_dig_x : ∀ k, k < 256 → tt_dig (nI k) = true → tt_sgn (nI k) = false := by decide +kernel
/-- the reference's token is the class's -/
theorem tm_tok_eq (f : Nat → Int32) (n i : Nat) : tm_tok f n i = tm_map (tt_tok f n i) ∧ (¬ tt_tok f n i = 7 → tm_to f n i = tt_to f n i) := by
  unfold tm_tok tm_to tt_tok tt_to
  rcases tt_ch_cases f n i with ⟨hn, e⟩ | ⟨hi, k, hk, e⟩
  · have s0 : tt_sgn (tt_ch f n i) = false := by rw [e]; decide
    simp [s0, hn, eq_true e, tm_map]
  · have hn : ¬ n ≤ i := by omega
    have h1 : ¬ tt_ch f n i = -1 := by rw [e]; exact tt_m1n k hk
    by_cases s1 : tt_sgn (tt_ch f n i) = true
    · have x := tt_sgn_x k hk (by rw [← e]; exact s1)
      rw [← e] at x
      obtain ⟨x1, x2, x3, x4, x5, x6, x7, x8, x9⟩ := x
      simp [s1, h1, x1, x2, x3, x4, x5, x6, x7, x8, tm_map]
    · have s2 : tt_sgn (tt_ch f n i) = false := by simpa using s1
      by_cases l1 : tt_let (tt_ch f n i) = true
      · have x := tt_let_x k hk (by rw [← e]; exact l1)
        rw [← e] at x
        obtain ⟨x1, x2, x3, x4, x5⟩ := x
        simp [s2, h1, hn, l1, x2, x3, x4, x5, tm_map]
      · have l2 : tt_let (tt_ch f n i) = false := by simpa using l1
        by_cases b1 : tt_ch f n i = 48 ∧ tt_ch f n (i + 1) = 120
        · have b := tt_sw_lo (P := fun j => tt_hx (tt_ch f n j)) (n := n) (i := i + 2)
          simp only [s2, h1, hn, l2, if_pos b1, if_false, Bool.false_eq_true]
          refine ⟨?_, fun _ => trivial⟩
          by_cases p : (tt_sw (fun j => tt_hx (tt_ch f n j)) n (i + 2) - i) % 2 = 0
          · rw [if_pos p, if_pos (by omega)]
            decide
          · rw [if_neg p, if_neg (by omega)]
            decide
        · by_cases d1 : tt_ch f n i = 45 ∨ tt_dig (tt_ch f n i) = true
          · have b := tt_sw_lo (P := fun j => tt_dig (tt_ch f n j)) (n := n) (i := i + 1)
            simp only [s2, h1, hn, l2, if_neg b1, if_pos d1, if_false, Bool.false_eq_true]
            by_cases m1 : tt_ch f n i = 45
            · have hs : tm_st0 f n i = i + 1 := by rw [tm_st0, if_pos m1]
              rw [hs]
              refine ⟨?_, fun _ => rfl⟩
              by_cases p : tt_sw (fun j => tt_dig (tt_ch f n j)) n (i + 1) = i + 1
              · simp [eq_true m1, p, tm_map]
              · simp [p, show i + 1 < tt_sw (fun j => tt_dig (tt_ch f n j)) n (i + 1) by omega, tm_map]
            · have hd : tt_dig (tt_ch f n i) = true := by
                rcases d1 with z | z
                · exact absurd z m1
                · exact z
              have hs : tm_st0 f n i = i := by rw [tm_st0, if_neg m1]
              have hw := tt_sw_in (P := fun j => tt_dig (tt_ch f n j)) hi hd
              rw [hs, ← hw]
              refine ⟨?_, fun _ => rfl⟩
              simp [m1, show i < tt_sw (fun j => tt_dig (tt_ch f n j)) n (i + 1) by omega, tm_map]
          · by_cases q1 : tt_ch f n i = 34
            · simp only [s2, h1, hn, l2, if_neg b1, if_neg d1, if_pos q1, if_false, Bool.false_eq_true]
              by_cases p : tt_str f n (i + 1) = 0
              · simp only [if_pos p]
                exact ⟨by decide, fun z => absurd (by first | rfl | trivial) z⟩
              · simp only [if_neg p]
                exact ⟨by decide, fun _ => tm_ste_eq _ _ (Nat.le_refl _) p⟩
            · have hc := tt_sw_cap (P := fun j => tt_wd (tt_ch f n j)) (n := n) (M := i + 32) (i := i + 1) (tt_P_in tt_wd_m1) (by omega)
              have b := tt_sw_lo (P := fun j => tt_wd (tt_ch f n j)) (n := n) (i := i + 1)
              simp only [s2, h1, hn, l2, if_neg b1, if_neg d1, if_neg q1, if_false, Bool.false_eq_true, hc]
              by_cases p1 : tt_ch f n i = 37
              · simp only [if_pos p1]
                by_cases p : min (tt_sw (fun j => tt_wd (tt_ch f n j)) n (i + 1)) (i + 32) = i + 1
                · simp only [if_pos p]
                  rw [if_neg (fun z => by omega)]
                  exact ⟨by decide, fun z => absurd (by first | rfl | trivial) z⟩
                · simp only [if_neg p]
                  rw [if_pos ⟨p1, by omega⟩]
                  exact ⟨by decide, fun _ => trivial⟩
              · simp only [if_neg p1]
                rw [if_neg (fun z => p1 z.1)]
                exact ⟨by decide, fun z => absurd (by first | rfl | trivial) z⟩
/-- what the class's tokens are -/
theorem tt_tok_set (f : Nat → Int32) (n i : Nat) : tt_tok f n i = 0 ∨ tt_tok f n i = 1 ∨ tt_tok f n i = 2 ∨ tt_tok f n i = 5 ∨ tt_tok f n i = 6 ∨ tt_tok f n i = 7 ∨ tt_tok f n i = 8 ∨ tt_tok f n i = 123 ∨ tt_tok f n i = 125 ∨ tt_tok f n i = 40 ∨ tt_tok f n i = 41 ∨ tt_tok f n i = 59 := by
  unfold tt_tok
  split
  · simp
  split
  · simp
  split
  · split <;> simp
  split
  · split <;> simp
  split
  · split <;> simp
  split
  · split <;> simp
  split
  · rename_i g
    simp only [tt_sgn, Bool.or_eq_true, decide_eq_true_eq] at g
    rcases g with (((g | g) | g) | g) | g <;> rw [g] <;> simp
  · simp
