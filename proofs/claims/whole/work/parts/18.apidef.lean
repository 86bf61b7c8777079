/-! The class's calls: words for what they answer. -/
theorem tt_in_at {g : Nat → Int32} {n k : Nat} (hk : k < n) (hn : n ≤ 4096) : tt_in g n (nI k) = g k := by
  unfold tt_in
  rw [if_neg (nI_pos (by omega)), if_neg (nI_ge hk (by omega)), if_neg (nI_ge (by omega) (by decide)), nI_clamp (by omega)]
theorem tt_in_lo {g : Nat → Int32} {n : Nat} {x : Int32} (h : x < 0) : tt_in g n x = -1 := by
  unfold tt_in
  rw [if_pos h]
theorem tt_in_hi {g : Nat → Int32} {n : Nat} {x : Int32} (h : nI n ≤ x) : tt_in g n x = -1 := by
  unfold tt_in
  by_cases h0 : x < 0
  · rw [if_pos h0]
  · rw [if_neg h0, if_pos h]
/-- what stands in a text behind a read: the rows, how many -/
def tt_rdA (f : Nat → Int32) (n : Nat) (r : Nat → Nat → Int32) : Int32 := (tt_run f n (n + 1) 0 (r, 0, -1, 0, 0)).1
def tt_rdS (f : Nat → Int32) (n : Nat) (r : Nat → Nat → Int32) : tt_S := (tt_run f n (n + 1) 0 (r, 0, -1, 0, 0)).2
def tt_rdN (f : Nat → Int32) (n : Nat) (r : Nat → Nat → Int32) : Nat := if tt_rdA f n r = -1 then (tt_rdS f n r).2.1 else 0
def tt_f20 (f : Nat → Int32) (n : Nat) (a b c d e : Int32) : Nat → Int32 := tt_f4 (tt_f4 (tt_f4 (tt_f4 (tt_f4 f n a) (n + 4) b) (n + 8) c) (n + 12) d) (n + 16) e
