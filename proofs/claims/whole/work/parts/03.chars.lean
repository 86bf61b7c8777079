/-! What single characters are, and how a text is gone over: pure words for the class and for the reference. -/
def tt_dig (c : Int32) : Bool := !decide (c < 48) && !decide (57 < c)
def tt_let (c : Int32) : Bool := (!decide (c < 97) && decide (c ≤ 122)) || ((!decide (c < 65) && decide (c ≤ 90)) || decide (c = 95))
def tt_wd (c : Int32) : Bool := tt_dig c || tt_let c
def tt_blk (c : Int32) : Bool := decide (c = 32) || decide (c = 9) || decide (c = 10) || decide (c = 13)
def tt_sgn (c : Int32) : Bool := decide (c = 123) || decide (c = 125) || decide (c = 40) || decide (c = 41) || decide (c = 59)
def tt_sts (c : Int32) : Bool := !decide (c < 32) && !decide (126 < c) && !decide (c = 34) && !decide (c = 92)
def tt_esc (c : Int32) : Int32 := if c = 110 then 10 else if c = 34 then c else if c = 92 then c else -1
def tt_hex (c : Int32) : Int32 := if ¬ c < 48 ∧ ¬ 57 < c then c - 48 else if ¬ c < 97 ∧ ¬ 102 < c then c - 97 + 10 else if ¬ c < 65 ∧ ¬ 70 < c then c - 65 + 10 else -1
def tt_hx (c : Int32) : Bool := !decide (tt_hex c = -1)
/-- the character at a place, or -1 -/
def tt_ch (f : Nat → Int32) (n i : Nat) : Int32 := if i < n then f i &&& 255 else -1
/-- the first place, from i on, where P does not hold -/
def tt_sw (P : Nat → Bool) (n i : Nat) : Nat := if h : i < n ∧ P i = true then tt_sw P n (i + 1) else i
termination_by n - i
decreasing_by omega
theorem tt_sw_in {P : Nat → Bool} {n i : Nat} (h : i < n) (hp : P i = true) : tt_sw P n (i + 1) = tt_sw P n i := by
  conv => rhs; rw [tt_sw, dif_pos ⟨h, hp⟩]
theorem tt_sw_out {P : Nat → Bool} {n i : Nat} (h : ¬ (i < n ∧ P i = true)) : tt_sw P n i = i := by
  rw [tt_sw, dif_neg h]
theorem tt_sw_ge {P : Nat → Bool} {n : Nat} : ∀ (k i : Nat), n - i ≤ k → i ≤ tt_sw P n i := by
  intro k
  induction k with
  | zero =>
    intro i h
    rw [tt_sw_out (fun z => by omega)]
    exact Nat.le_refl _
  | succ k ih =>
    intro i h
    by_cases z : i < n ∧ P i = true
    · rw [← tt_sw_in z.1 z.2]
      have := ih (i + 1) (by omega)
      omega
    · rw [tt_sw_out z]
      exact Nat.le_refl _
theorem tt_sw_lo {P : Nat → Bool} {n i : Nat} : i ≤ tt_sw P n i := tt_sw_ge (n - i) i (Nat.le_refl _)
theorem tt_sw_le' {P : Nat → Bool} {n : Nat} : ∀ (k i : Nat), n - i ≤ k → tt_sw P n i ≤ max n i := by
  intro k
  induction k with
  | zero =>
    intro i h
    rw [tt_sw_out (fun z => by omega)]
    omega
  | succ k ih =>
    intro i h
    by_cases z : i < n ∧ P i = true
    · rw [← tt_sw_in z.1 z.2]
      have := ih (i + 1) (by omega)
      omega
    · rw [tt_sw_out z]
      omega
theorem tt_sw_hi {P : Nat → Bool} {n i : Nat} : tt_sw P n i ≤ max n i := tt_sw_le' (n - i) i (Nat.le_refl _)
/-- the place behind blanks and remarks; q: whether a remark is under way -/
def tt_bl (f : Nat → Int32) (n : Nat) (q : Bool) (i : Nat) : Nat :=
  if h : i < n then (if tt_ch f n i = 35 then tt_bl f n true (i + 1) else if tt_ch f n i = 10 then tt_bl f n false (i + 1) else if q = false ∧ tt_blk (tt_ch f n i) = false then i else tt_bl f n q (i + 1)) else i
termination_by n - i
decreasing_by all_goals omega
/-- the end of a string whose rest begins at i; 0 where there is none -/
def tt_str (f : Nat → Int32) (n i : Nat) : Nat :=
  if h : i < n then (if tt_ch f n i = 34 then i + 1 else if tt_sts (tt_ch f n i) = true then tt_str f n (i + 1) else if tt_ch f n i = 92 ∧ ¬ tt_esc (tt_ch f n (i + 1)) = -1 then tt_str f n (i + 2) else 0) else 0
termination_by n - i
decreasing_by all_goals omega
theorem tt_bl_rng {f : Nat → Int32} {n : Nat} : ∀ (k i : Nat) (q : Bool), n - i ≤ k → i ≤ tt_bl f n q i ∧ tt_bl f n q i ≤ max n i := by
  intro k
  induction k with
  | zero =>
    intro i q h
    rw [tt_bl, dif_neg (by omega)]
    omega
  | succ k ih =>
    intro i q h
    rw [tt_bl]
    split
    · split
      · have := ih (i + 1) true (by omega)
        omega
      · split
        · have := ih (i + 1) false (by omega)
          omega
        · split
          · omega
          · have := ih (i + 1) q (by omega)
            omega
    · omega
theorem tt_str_rng {f : Nat → Int32} {n : Nat} : ∀ (k i : Nat), n - i ≤ k → tt_str f n i = 0 ∨ (i < tt_str f n i ∧ tt_str f n i ≤ n) := by
  intro k
  induction k with
  | zero =>
    intro i h
    rw [tt_str, dif_neg (by omega)]
    exact Or.inl rfl
  | succ k ih =>
    intro i h
    rw [tt_str]
    split
    · split
      · omega
      · split
        · have := ih (i + 1) (by omega)
          omega
        · split
          · have := ih (i + 2) (by omega)
            omega
          · exact Or.inl rfl
    · exact Or.inl rfl
/-- the token that begins at i, as the class names it -/
def tt_tok (f : Nat → Int32) (n i : Nat) : Int32 :=
  if tt_ch f n i = -1 then 8
  else if tt_let (tt_ch f n i) = true then 5
  else if tt_ch f n i = 48 ∧ tt_ch f n (i + 1) = 120 then (if (tt_sw (fun j => tt_hx (tt_ch f n j)) n (i + 2) - i) % 2 = 0 then 2 else 7)
  else if tt_ch f n i = 45 ∨ tt_dig (tt_ch f n i) = true then (if tt_ch f n i = 45 ∧ tt_sw (fun j => tt_dig (tt_ch f n j)) n (i + 1) = i + 1 then 7 else 0)
  else if tt_ch f n i = 34 then (if tt_str f n (i + 1) = 0 then 7 else 1)
  else if tt_ch f n i = 37 then (if min (tt_sw (fun j => tt_wd (tt_ch f n j)) n (i + 1)) (i + 32) = i + 1 then 7 else 6)
  else if tt_sgn (tt_ch f n i) = true then tt_ch f n i else 7
/-- where it ends, as the class has it -/
def tt_to (f : Nat → Int32) (n i : Nat) : Nat :=
  if tt_ch f n i = -1 then i
  else if tt_let (tt_ch f n i) = true then tt_sw (fun j => tt_wd (tt_ch f n j)) n i
  else if tt_ch f n i = 48 ∧ tt_ch f n (i + 1) = 120 then tt_sw (fun j => tt_hx (tt_ch f n j)) n (i + 2)
  else if tt_ch f n i = 45 ∨ tt_dig (tt_ch f n i) = true then tt_sw (fun j => tt_dig (tt_ch f n j)) n (i + 1)
  else if tt_ch f n i = 34 then (if tt_str f n (i + 1) = 0 then i else tt_str f n (i + 1))
  else if tt_ch f n i = 37 then min (tt_sw (fun j => tt_wd (tt_ch f n j)) n (i + 1)) (i + 32)
  else i + 1
theorem tt_swb (P : Nat → Bool) (n i : Nat) : i ≤ tt_sw P n i ∧ tt_sw P n i ≤ max n i := ⟨tt_sw_lo, tt_sw_hi⟩
theorem tt_blb (f : Nat → Int32) (n : Nat) (q : Bool) (i : Nat) : i ≤ tt_bl f n q i ∧ tt_bl f n q i ≤ max n i := tt_bl_rng _ i q (Nat.le_refl _)
