/-! Bytes that come in, numbers as written, meanings of tokens: the class's words. -/
def tt_chr (f : Nat → Int32) (n : Nat) (x : Int32) : Int32 := if x < 0 then -1 else if nI n ≤ x then -1 else f x.toNatClampNeg &&& 255
def tt_ins (f : Nat → Int32) (n x y : Nat) (i : Int32) : Int32 := if i < 0 then -1 else if nI (y - x) ≤ i then -1 else tt_ch f n (x + i.toNatClampNeg)
theorem tt_addraw {x : Nat} {i : Int32} (h : ¬ i < 0) : nI x + i = nI (x + i.toNatClampNeg) := by
  obtain ⟨j, hj, rfl⟩ := nI_of h
  rw [nI_clamp hj]
  exact nI_add x j
theorem tt_ltraw {k : Nat} {i : Int32} (h0 : ¬ i < 0) (h : ¬ nI k ≤ i) (hk : k < 2 ^ 31) : i.toNatClampNeg < k := by
  obtain ⟨j, hj, rfl⟩ := nI_of h0
  rw [nI_clamp hj]
  rcases Nat.lt_or_ge j k with q | q
  · exact q
  · exact absurd (nI_le q hj) h
def tt_by (v k : Int32) : Int32 := (v.toUInt32 >>> (k.toUInt32 &&& Int32.toUInt32 31)).toInt32.toInt8.toInt32
def tt_f4 (f : Nat → Int32) (n : Nat) (v : Int32) : Nat → Int32 := upd (upd (upd (upd f n (tt_by v 24)) (n + 1) (tt_by v 16)) (n + 2) (tt_by v 8)) (n + 3) (tt_by v 0)
def tt_rpA (f : Nat → Int32) (n : Nat) (x b : Int32) : Int32 := if x < 0 then -1 else if nI n ≤ x then -1 else if b < 0 then -1 else if ¬ b ≤ 255 then -1 else f x.toNatClampNeg &&& 255
def tt_rpF (f : Nat → Int32) (n : Nat) (x b : Int32) : Nat → Int32 := if x < 0 then f else if nI n ≤ x then f else if b < 0 then f else if ¬ b ≤ 255 then f else upd f x.toNatClampNeg b.toInt8.toInt32
/-- where the first digit stands that is no needless zero -/
def tt_fd (f : Nat → Int32) (n x y : Nat) : Nat := tt_sw (fun j => decide (tt_ch f n j = 48)) y (if tt_ch f n x = 45 then x + 1 else x)
def tt_nx (f : Nat → Int32) (n k : Nat) : Nat := if tt_ch f n k = 92 then k + 2 else k + 1
def tt_sl (f : Nat → Int32) (n e k : Nat) : Nat := if h : k < e then 1 + tt_sl f n e (tt_nx f n k) else 0
termination_by e - k
decreasing_by (unfold tt_nx; split <;> omega)
def tt_cv (f : Nat → Int32) (n k : Nat) : Int32 := if tt_ch f n k = 92 then tt_esc (tt_ch f n (k + 1)) else tt_ch f n k
def tt_sp (f : Nat → Int32) (n e : Nat) (i : Int32) (q k : Nat) : Int32 := if h : k < e then (if nI q = i then tt_cv f n k else tt_sp f n e i (q + 1) (tt_nx f n k)) else -1
termination_by e - k
decreasing_by (unfold tt_nx; split <;> omega)
def tt_pb (f : Nat → Int32) (n x y : Nat) (i : Int32) : Int32 := if i < 0 then -1 else if ¬ i < nI ((y - x) / 2 - 1) then -1 else tt_hex (tt_ch f n (x + 2 + 2 * i.toNatClampNeg)) * 16 + tt_hex (tt_ch f n (x + 2 + 2 * i.toNatClampNeg + 1))
theorem tt_mul2 {i : Int32} (h : ¬ i < 0) : 2 * i = nI (2 * i.toNatClampNeg) := by
  obtain ⟨j, hj, rfl⟩ := nI_of h
  rw [nI_clamp hj]
  exact pk_mul 2 j
theorem tt_ltr2 {k : Nat} {i : Int32} (h0 : ¬ i < 0) (h : i < nI k) (hk : k < 2 ^ 31) : i.toNatClampNeg < k := by
  obtain ⟨j, hj, rfl⟩ := nI_of h0
  rw [nI_clamp hj]
  exact (nI_ltI hj hk).mp h
theorem tt_sl_in {f : Nat → Int32} {n e k : Nat} (h : k < e) : tt_sl f n e k = 1 + tt_sl f n e (tt_nx f n k) := by
  rw [tt_sl, dif_pos h]
theorem tt_sl_out {f : Nat → Int32} {n e k : Nat} (h : ¬ k < e) : tt_sl f n e k = 0 := by
  rw [tt_sl, dif_neg h]
theorem tt_fdb (f : Nat → Int32) (n x y : Nat) : x ≤ tt_fd f n x y ∧ tt_fd f n x y ≤ max y (x + 1) := by
  have := tt_swb (fun j => decide (tt_ch f n j = 48)) y (if tt_ch f n x = 45 then x + 1 else x)
  unfold tt_fd
  split at this <;> rename_i h <;> simp only [h, if_true, if_false] <;> omega
