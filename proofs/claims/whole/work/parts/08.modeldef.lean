/-! The reference's scanner, in its own words. -/
def tt_nf (d : Nat → Nat) : Nat → Int32 := fun k => nI (d k)
theorem tt_hx_m1 : tt_hx (-1) = false := by decide
theorem tt_dig_m1 : tt_dig (-1) = false := by decide
theorem tt_wd_m1 : tt_wd (-1) = false := by decide
theorem tt_hexc : ∀ k, k < 256 → tt_hex (nI k) < 0 → tt_hx (nI k) = false := by decide +kernel
theorem tt_hex_in {c : Int32} (h : ¬ tt_hex c < 0) : tt_hx c = true := by
  unfold tt_hx
  by_cases z : tt_hex c = -1
  · rw [z] at h
    exact absurd (by decide) h
  · simp [z]
theorem tt_hex_out {f : Nat → Int32} {n i : Nat} (h : tt_hex (tt_ch f n i) < 0) : tt_hx (tt_ch f n i) = false := by
  rcases tt_ch_cases f n i with ⟨-, e⟩ | ⟨-, k, hk, e⟩
  · rw [e]
    exact tt_hx_m1
  · rw [e] at h ⊢
    exact tt_hexc k hk h
/-- behind a string's rest that begins at k, as the reference has it -/
def tm_ste (f : Nat → Int32) (n k : Nat) : Nat :=
  if h : k < n then (if tt_ch f n k = 34 then k + 1 else if tt_ch f n k = 92 ∧ (tt_ch f n (k + 1) = 92 ∨ tt_ch f n (k + 1) = 34 ∨ tt_ch f n (k + 1) = 110) then tm_ste f n (k + 2) else if ¬ tt_ch f n k < 32 ∧ ¬ 126 < tt_ch f n k ∧ ¬ tt_ch f n k = 92 then tm_ste f n (k + 1) else k + 2) else k + 2
termination_by n - k
decreasing_by all_goals omega
def tm_st0 (f : Nat → Int32) (n i : Nat) : Nat := if tt_ch f n i = 45 then i + 1 else i
def tm_tok (f : Nat → Int32) (n i : Nat) : Int32 :=
  if tt_sgn (tt_ch f n i) = true then tt_ch f n i
  else if n ≤ i then 5
  else if tt_ch f n i = 48 ∧ tt_ch f n (i + 1) = 120 then (if (tt_sw (fun j => tt_hx (tt_ch f n j)) n (i + 2) - (i + 2)) % 2 = 0 then 2 else 7)
  else if tt_ch f n i = 45 ∨ tt_dig (tt_ch f n i) = true then (if tm_st0 f n i < tt_sw (fun j => tt_dig (tt_ch f n j)) n (tm_st0 f n i) then 0 else 7)
  else if tt_ch f n i = 34 then (if tt_str f n (i + 1) = 0 then 7 else 1)
  else if tt_let (tt_ch f n i) = true then 4
  else if tt_ch f n i = 37 ∧ i + 1 < tt_sw (fun j => tt_wd (tt_ch f n j)) (i + 32) (i + 1) then 6 else 7
def tm_to (f : Nat → Int32) (n i : Nat) : Nat :=
  if tt_sgn (tt_ch f n i) = true then i + 1
  else if n ≤ i then i
  else if tt_ch f n i = 48 ∧ tt_ch f n (i + 1) = 120 then tt_sw (fun j => tt_hx (tt_ch f n j)) n (i + 2)
  else if tt_ch f n i = 45 ∨ tt_dig (tt_ch f n i) = true then tt_sw (fun j => tt_dig (tt_ch f n j)) n (tm_st0 f n i)
  else if tt_ch f n i = 34 then tm_ste f n (i + 1)
  else if tt_let (tt_ch f n i) = true then tt_sw (fun j => tt_wd (tt_ch f n j)) n i
  else tt_sw (fun j => tt_wd (tt_ch f n j)) (i + 32) (i + 1)
theorem tt_dig_t {x : Int32} (h : tt_dig x = true) : ¬ x < 48 ∧ ¬ 57 < x := by
  simp only [tt_dig, Bool.and_eq_true, Bool.not_eq_true', decide_eq_false_iff_not] at h
  exact h
theorem tt_dig_f {x : Int32} (h : tt_dig x = false) : ¬ (¬ x < 48 ∧ ¬ 57 < x) := by
  intro z
  have : tt_dig x = true := by
    simp only [tt_dig, Bool.and_eq_true, Bool.not_eq_true', decide_eq_false_iff_not]
    exact z
  rw [this] at h
  exact absurd h (by decide)
/-! the string's loop -/
def tm_SI (f : Nat → Int32) (n x : Nat) (t : Int32) (j : Nat) : Prop := (t = 1 ∧ tt_str f n j = tt_str f n x ∧ tm_ste f n j = tm_ste f n x) ∨ (t = 7 ∧ tt_str f n x = 0 ∧ tm_ste f n x = j + 1)
theorem tm_SI1 {f : Nat → Int32} {n x j : Nat} {t : Int32} (he : tm_SI f n x t j) (h1 : t = 1) : tt_str f n j = tt_str f n x ∧ tm_ste f n j = tm_ste f n x := by
  rcases he with ⟨-, a, b⟩ | ⟨a, -, -⟩
  · exact ⟨a, b⟩
  · rw [h1] at a
    exact absurd a (by decide)
theorem tt_chne {f : Nat → Int32} {n j : Nat} {c : Int32} (h : tt_ch f n j = c) (hc : ¬ c = -1) : j < n := tt_ch_in (f := f) (by rw [h]; exact hc)
theorem tt_ge32 {f : Nat → Int32} {n j : Nat} (h : ¬ tt_ch f n j < 32) : j < n := tt_ch_in (f := f) (fun z => h (by rw [z]; decide))
theorem tm_SI_end {f : Nat → Int32} {n x j : Nat} {t : Int32} (he : tm_SI f n x t j) (h1 : t = 1) (hc : tt_ch f n j = 34) : (if tt_str f n x = 0 then (7 : Int32) else 1) = t ∧ tm_ste f n x = j + 1 := by
  obtain ⟨a, b⟩ := tm_SI1 he h1
  have hj := tt_chne hc (by decide)
  rw [tt_str, dif_pos hj, if_pos hc] at a
  rw [tm_ste, dif_pos hj, if_pos hc] at b
  rw [← a, ← b, h1]
  exact ⟨by simp, rfl⟩
theorem tm_SI_out {f : Nat → Int32} {n x j : Nat} {t : Int32} (he : tm_SI f n x t j) (h1 : ¬ t = 1) : (if tt_str f n x = 0 then (7 : Int32) else 1) = t ∧ tm_ste f n x = j + 1 := by
  rcases he with ⟨a, -, -⟩ | ⟨a, b, d⟩
  · exact absurd a h1
  · rw [if_pos b, a]
    exact ⟨rfl, d⟩
theorem tm_SI_E {f : Nat → Int32} {n x j : Nat} {t : Int32} (he : tm_SI f n x t j) (h1 : t = 1) (hq : ¬ tt_ch f n j = 34) (hc : tt_ch f n j = 92) (hd : tt_ch f n (j + 1) = 92 ∨ tt_ch f n (j + 1) = 34 ∨ tt_ch f n (j + 1) = 110) : tm_SI f n x 1 (j + 2) := by
  obtain ⟨a, b⟩ := tm_SI1 he h1
  have hj := tt_chne hc (by decide)
  have e : ¬ tt_esc (tt_ch f n (j + 1)) = -1 := by
    rcases hd with z | z | z <;> rw [z] <;> decide
  have q : ¬ tt_sts (tt_ch f n j) = true := by rw [hc]; decide
  rw [tt_str, dif_pos hj, if_neg hq, if_neg q, if_pos ⟨hc, e⟩] at a
  rw [tm_ste, dif_pos hj, if_neg hq, if_pos ⟨hc, hd⟩] at b
  exact Or.inl ⟨rfl, a, b⟩
theorem tt_sts_of {c : Int32} (hq : ¬ c = 34) (ho : ¬ c < 32 ∧ ¬ 126 < c ∧ ¬ c = 92) : tt_sts c = true := by
  simp only [tt_sts, Bool.and_eq_true, Bool.not_eq_true', decide_eq_false_iff_not]
  exact ⟨⟨⟨ho.1, ho.2.1⟩, hq⟩, ho.2.2⟩
theorem tt_sts_no {c : Int32} (ho : ¬ (¬ c < 32 ∧ ¬ 126 < c ∧ ¬ c = 92)) : ¬ tt_sts c = true := by
  intro z
  simp only [tt_sts, Bool.and_eq_true, Bool.not_eq_true', decide_eq_false_iff_not] at z
  exact ho ⟨z.1.1.1, z.1.1.2, z.2⟩
theorem tm_SI_O {f : Nat → Int32} {n x j : Nat} {t : Int32} (he : tm_SI f n x t j) (h1 : t = 1) (hq : ¬ tt_ch f n j = 34) (hc : ¬ (tt_ch f n j = 92 ∧ (tt_ch f n (j + 1) = 92 ∨ tt_ch f n (j + 1) = 34 ∨ tt_ch f n (j + 1) = 110))) (ho : ¬ tt_ch f n j < 32 ∧ ¬ 126 < tt_ch f n j ∧ ¬ tt_ch f n j = 92) : tm_SI f n x 1 (j + 1) := by
  obtain ⟨a, b⟩ := tm_SI1 he h1
  have hj := tt_ge32 ho.1
  rw [tt_str, dif_pos hj, if_neg hq, if_pos (tt_sts_of hq ho)] at a
  rw [tm_ste, dif_pos hj, if_neg hq, if_neg hc, if_pos ho] at b
  exact Or.inl ⟨rfl, a, b⟩
theorem tt_esc_or {c : Int32} (h : ¬ tt_esc c = -1) : c = 92 ∨ c = 34 ∨ c = 110 := by
  unfold tt_esc at h
  by_cases h1 : c = 110
  · exact Or.inr (Or.inr h1)
  · rw [if_neg h1] at h
    by_cases h2 : c = 34
    · exact Or.inr (Or.inl h2)
    · rw [if_neg h2] at h
      by_cases h3 : c = 92
      · exact Or.inl h3
      · rw [if_neg h3] at h
        exact absurd rfl h
theorem tm_SI_B {f : Nat → Int32} {n x j : Nat} {t : Int32} (he : tm_SI f n x t j) (h1 : t = 1) (hq : ¬ tt_ch f n j = 34) (hc : ¬ (tt_ch f n j = 92 ∧ (tt_ch f n (j + 1) = 92 ∨ tt_ch f n (j + 1) = 34 ∨ tt_ch f n (j + 1) = 110))) (ho : ¬ (¬ tt_ch f n j < 32 ∧ ¬ 126 < tt_ch f n j ∧ ¬ tt_ch f n j = 92)) : tm_SI f n x 7 (j + 1) := by
  obtain ⟨a, b⟩ := tm_SI1 he h1
  by_cases hj : j < n
  · rw [tt_str, dif_pos hj, if_neg hq, if_neg (tt_sts_no ho), if_neg (fun z => hc ⟨z.1, tt_esc_or z.2⟩)] at a
    rw [tm_ste, dif_pos hj, if_neg hq, if_neg hc, if_neg ho] at b
    exact Or.inr ⟨rfl, a.symm, b.symm⟩
  · rw [tt_str, dif_neg hj] at a
    rw [tm_ste, dif_neg hj] at b
    exact Or.inr ⟨rfl, a.symm, b.symm⟩
/-! blanks -/
theorem tt_raw10 {b : Int32} (hb : b.toInt8.toInt32 = b) : b = 10 ↔ b &&& 255 = 10 := sc_eq hb (n := 10) (by decide)
theorem tt_ch10 {f : Nat → Int32} {n i : Nat} (hf : ∀ k, (f k).toInt8.toInt32 = f k) (hi : i < n) : f i = 10 ↔ tt_ch f n i = 10 := by
  rw [tt_ch, if_pos hi]
  exact tt_raw10 (hf i)
theorem tt_bl_stop {f : Nat → Int32} {n i : Nat} (h1 : ¬ tt_ch f n i = 35) (h2 : ¬ tt_ch f n i = 10) (h3 : ¬ tt_ch f n i = 32) (h4 : ¬ tt_ch f n i = 9) (h5 : ¬ tt_ch f n i = 13) : tt_bl f n false i = i := by
  rw [tt_bl]
  split
  · simp [h1, h2, tt_blk, h3, h4, h5]
  · rfl
theorem tt_bl_on {f : Nat → Int32} {n i : Nat} (h : tt_ch f n i = 32 ∨ tt_ch f n i = 9 ∨ tt_ch f n i = 13 ∨ tt_ch f n i = 10 ∨ tt_ch f n i = 35) (h1 : ¬ tt_ch f n i = 35) : tt_bl f n false (i + 1) = tt_bl f n false i ∧ i < n := by
  have hi : i < n := by
    rcases h with z | z | z | z | z <;> exact tt_chne z (by decide)
  refine ⟨?_, hi⟩
  conv => rhs; rw [tt_bl]
  rw [dif_pos hi, if_neg h1]
  by_cases h2 : tt_ch f n i = 10
  · rw [if_pos h2]
  · rw [if_neg h2, if_neg]
    intro z
    have := z.2
    simp [tt_blk] at this
    rcases h with q | q | q | q | q
    · exact this.1.1.1 q
    · exact this.1.1.2 q
    · exact this.2 q
    · exact h2 q
    · exact h1 q
theorem tt_bl_hash {f : Nat → Int32} {n i : Nat} (h : tt_ch f n i = 35) : tt_bl f n true i = tt_bl f n false i := by
  have hi := tt_chne h (by decide)
  rw [tt_bl, dif_pos hi, if_pos h]
  conv => rhs; rw [tt_bl, dif_pos hi, if_pos h]
theorem tt_bl_skip {f : Nat → Int32} {n i : Nat} (hi : i < n) (h : ¬ tt_ch f n i = 10) : tt_bl f n true (i + 1) = tt_bl f n true i := by
  conv => rhs; rw [tt_bl]
  rw [dif_pos hi]
  by_cases h1 : tt_ch f n i = 35
  · rw [if_pos h1]
  · rw [if_neg h1, if_neg h, if_neg (fun z => absurd z.1 (by decide))]
theorem tt_bl_end {f : Nat → Int32} {n i : Nat} (h : n ≤ i ∨ tt_ch f n i = 10) : tt_bl f n false i = tt_bl f n true i := by
  rw [tt_bl]
  conv => rhs; rw [tt_bl]
  by_cases hi : i < n
  · rw [dif_pos hi, dif_pos hi]
    have h2 : tt_ch f n i = 10 := by
      rcases h with z | z
      · omega
      · exact z
    have h1 : ¬ tt_ch f n i = 35 := by rw [h2]; decide
    rw [if_neg h1, if_neg h1, if_pos h2, if_pos h2]
  · rw [dif_neg hi, dif_neg hi]
