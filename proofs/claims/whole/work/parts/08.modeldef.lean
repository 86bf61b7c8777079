/-! The reference's scanner, in its own words. -/
def tt_nf (d : Nat → Nat) : Nat → Int32 := fun k => nI (d k)
theorem tt_hx_m1 : tt_hx (-1) = false := by decide
theorem tt_dig_m1 : tt_dig (-1) = false := by decide
theorem tt_wd_m1 : tt_wd (-1) = false := by decide
theorem tt_hexc : ∀ k, k < 256 → tt_hex (nI k) < 0 → tt_hx (nI k) = false := by decide +kernel
theorem tt_hex_in {c : Int32} (h : ¬ tt_hex c < 0) : tt_hx c = true := by
  unfold tt_hx
  by_cases z : tt_hex c = -1
  · rw [z] at h
    exact absurd (by decide) h
  · simp [z]
theorem tt_hex_out {f : Nat → Int32} {n i : Nat} (h : tt_hex (tt_ch f n i) < 0) : tt_hx (tt_ch f n i) = false := by
  rcases tt_ch_cases f n i with ⟨-, e⟩ | ⟨-, k, hk, e⟩
  · rw [e]
    exact tt_hx_m1
  · rw [e] at h ⊢
    exact tt_hexc k hk h
/-- behind a string's rest that begins at k, as the reference has it -/
def tm_ste (f : Nat → Int32) (n k : Nat) : Nat :=
  if h : k < n then (if tt_ch f n k = 34 then k + 1 else if tt_ch f n k = 92 ∧ (tt_ch f n (k + 1) = 92 ∨ tt_ch f n (k + 1) = 34 ∨ tt_ch f n (k + 1) = 110) then tm_ste f n (k + 2) else if ¬ tt_ch f n k < 32 ∧ ¬ 126 < tt_ch f n k ∧ ¬ tt_ch f n k = 92 then tm_ste f n (k + 1) else k + 2) else k + 2
termination_by n - k
decreasing_by all_goals omega
def tm_st0 (f : Nat → Int32) (n i : Nat) : Nat := if tt_ch f n i = 45 then i + 1 else i
def tm_tok (f : Nat → Int32) (n i : Nat) : Int32 :=
  if tt_sgn (tt_ch f n i) = true then tt_ch f n i
  else if n ≤ i then 5
  else if tt_ch f n i = 48 ∧ tt_ch f n (i + 1) = 120 then (if (tt_sw (fun j => tt_hx (tt_ch f n j)) n (i + 2) - (i + 2)) % 2 = 0 then 2 else 7)
  else if tt_ch f n i = 45 ∨ tt_dig (tt_ch f n i) = true then (if tm_st0 f n i < tt_sw (fun j => tt_dig (tt_ch f n j)) n (tm_st0 f n i) then 0 else 7)
  else if tt_ch f n i = 34 then (if tt_str f n (i + 1) = 0 then 7 else 1)
  else if tt_let (tt_ch f n i) = true then 4
  else if tt_ch f n i = 37 ∧ i + 1 < tt_sw (fun j => tt_wd (tt_ch f n j)) (i + 32) (i + 1) then 6 else 7
def tm_to (f : Nat → Int32) (n i : Nat) : Nat :=
  if tt_sgn (tt_ch f n i) = true then i + 1
  else if n ≤ i then i
  else if tt_ch f n i = 48 ∧ tt_ch f n (i + 1) = 120 then tt_sw (fun j => tt_hx (tt_ch f n j)) n (i + 2)
  else if tt_ch f n i = 45 ∨ tt_dig (tt_ch f n i) = true then tt_sw (fun j => tt_dig (tt_ch f n j)) n (tm_st0 f n i)
  else if tt_ch f n i = 34 then tm_ste f n (i + 1)
  else if tt_let (tt_ch f n i) = true then tt_sw (fun j => tt_wd (tt_ch f n j)) n i
  else tt_sw (fun j => tt_wd (tt_ch f n j)) (i + 32) (i + 1)
theorem tt_dig_t {x : Int32} (h : tt_dig x = true) : ¬ x < 48 ∧ ¬ 57 < x := by
  simp only [tt_dig, Bool.and_eq_true, Bool.not_eq_true', decide_eq_false_iff_not] at h
  exact h
theorem tt_dig_f {x : Int32} (h : tt_dig x = false) : ¬ (¬ x < 48 ∧ ¬ 57 < x) := by
  intro z
  have : tt_dig x = true := by
    simp only [tt_dig, Bool.and_eq_true, Bool.not_eq_true', decide_eq_false_iff_not]
    exact z
  rw [this] at h
  exact absurd h (by decide)
