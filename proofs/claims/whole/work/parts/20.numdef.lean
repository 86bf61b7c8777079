/-! Numbers in the reference: digits of 16 bits, the lowest first. -/
def tm_dv (f : Nat → Int32) (n j : Nat) : Nat := (tt_ch f n j).toNatClampNeg - 48
def tm_mc (D : Nat → Nat) (c : Nat) : Nat → Nat
  | 0 => c
  | k + 1 => (10 * D k + tm_mc D c k) / 65536
def tm_in (D : Nat → Nat) (c q : Nat) : Nat → Nat := fun k => if k < q then (10 * D k + tm_mc D c k) % 65536 else D k
def tm_put (D : Nat → Nat) (d v : Nat) : Nat → Nat := fun k => if k = d then v else D k
def tm_step (s : (Nat → Nat) × Nat) (c : Nat) : (Nat → Nat) × Nat := if tm_mc s.1 c s.2 = 0 then (tm_in s.1 c s.2, s.2) else (tm_put (tm_in s.1 c s.2) s.2 (tm_mc s.1 c s.2), s.2 + 1)
def tm_nl (f : Nat → Int32) (n y j : Nat) (s : (Nat → Nat) × Nat) : Bool × (Nat → Nat) × Nat :=
  if h : j < y then (if 66 < (tm_step s (tm_dv f n j)).2 then (false, tm_step s (tm_dv f n j)) else tm_nl f n y (j + 1) (tm_step s (tm_dv f n j))) else (true, s)
termination_by y - j
def tm_bl (v : Nat) : Nat := if h : 0 < v then 1 + tm_bl (v / 2) else 0
termination_by v
decreasing_by omega
def tm_bits (D : Nat → Nat) (d : Nat) : Nat := if d = 0 then 0 else 16 * (d - 1) + tm_bl (D (d - 1))
theorem tm_bl_in {v : Nat} (h : 0 < v) : tm_bl v = 1 + tm_bl (v / 2) := by rw [tm_bl, dif_pos h]
theorem tm_bl_0 : tm_bl 0 = 0 := by rw [tm_bl, dif_neg (by omega)]
theorem tm_bl_le : ∀ (k v : Nat), v < 2 ^ k → tm_bl v ≤ k := by
  intro k
  induction k with
  | zero =>
    intro v h
    have : v = 0 := by omega
    rw [this, tm_bl_0]
    exact Nat.le_refl _
  | succ k ih =>
    intro v h
    rcases Nat.eq_zero_or_pos v with z | z
    · rw [z, tm_bl_0]
      omega
    · rw [tm_bl_in z]
      have := ih (v / 2) (by rw [Nat.pow_succ] at h; omega)
      omega
theorem tt_updN (D : Nat → Nat) (d v : Nat) : upd (tt_nf D) d (nI v) = tt_nf (tm_put D d v) := by
  funext k
  unfold upd tt_nf tm_put
  split <;> rfl
theorem tm_mc_le {D : Nat → Nat} {c d : Nat} (hD : ∀ k, k < d → D k < 65536) (hc : c ≤ 9) : ∀ k, k ≤ d → tm_mc D c k ≤ 9 := by
  intro k
  induction k with
  | zero => intro _; exact hc
  | succ k ih =>
    intro h
    have a := ih (by omega)
    have b := hD k (by omega)
    show (10 * D k + tm_mc D c k) / 65536 ≤ 9
    omega
theorem tm_in_at {D : Nat → Nat} {c q : Nat} : tm_in D c q q = D q := by
  unfold tm_in
  rw [if_neg (Nat.lt_irrefl q)]
theorem tm_in_s {D : Nat → Nat} {c q : Nat} : tm_put (tm_in D c q) q ((10 * D q + tm_mc D c q) % 65536) = tm_in D c (q + 1) := by
  funext k
  unfold tm_put tm_in
  by_cases h : k = q
  · subst h
    rw [if_pos rfl, if_pos (by omega)]
  · rw [if_neg h]
    by_cases h2 : k < q
    · rw [if_pos h2, if_pos (by omega)]
    · rw [if_neg h2, if_neg (by omega)]
theorem tm_in_0 {D : Nat → Nat} {c : Nat} : tm_in D c 0 = D := by
  funext k
  unfold tm_in
  rw [if_neg (by omega)]
theorem tm_in_lt {D : Nat → Nat} {c d : Nat} (k : Nat) (h : k < d) : tm_in D c d k < 65536 := by
  unfold tm_in
  rw [if_pos h]
  exact Nat.mod_lt _ (by decide)
theorem tm_step_ok {D : Nat → Nat} {c d : Nat} (hD : ∀ k, k < d → D k < 65536) (hc : c ≤ 9) : ∀ k, k < (tm_step (D, d) c).2 → (tm_step (D, d) c).1 k < 65536 := by
  unfold tm_step
  have hm := tm_mc_le hD hc d (Nat.le_refl _)
  split
  · intro k h
    exact tm_in_lt k h
  · intro k h
    show tm_put (tm_in D c d) d (tm_mc D c d) k < 65536
    have h2 : k < d + 1 := h
    unfold tm_put
    split
    · show tm_mc D c d < 65536
      omega
    · exact tm_in_lt k (by omega)
theorem tt_chraw {f : Nat → Int32} {n i c : Nat} (hf : ∀ k, (f k).toInt8.toInt32 = f k) (hi : i < n) (hc : c < 128) (he : (nI c).toInt8.toInt32 = nI c) : f i = nI c ↔ tt_ch f n i = nI c := by
  rw [tt_ch, if_pos hi]
  have := sc_eq (hf i) (n := c) (by omega)
  rw [he] at this
  exact this
theorem tt_b7 : ∀ c, c < 128 → (nI c).toInt8.toInt32 = nI c := by decide +kernel
theorem tt_digk : ∀ k, k < 256 → tt_dig (nI k) = true → 48 ≤ k ∧ k ≤ 57 := by decide +kernel
theorem tm_dv_ok {f : Nat → Int32} {n j : Nat} (hf : ∀ k, (f k).toInt8.toInt32 = f k) (h : tt_dig (tt_ch f n j) = true) : f j - 48 = nI (tm_dv f n j) ∧ tm_dv f n j ≤ 9 := by
  rcases tt_ch_cases f n j with ⟨-, e⟩ | ⟨hj, k, hk, e⟩
  · rw [e] at h
    exact absurd h (by decide)
  · rw [e] at h
    have hr := tt_digk k hk h
    have e2 : f j = nI k := (tt_chraw hf hj (by omega) (tt_b7 k (by omega))).mpr e
    unfold tm_dv
    rw [e, e2, nI_clamp (by omega)]
    exact ⟨pk_sub (a := k) (b := 48) hr.1, by omega⟩
theorem tm_bits_b (D : Nat → Nat) (d : Nat) (hd : d ≤ 80) (hD : ∀ k, k < d → D k < 65536) : tm_bits D d ≤ 1280 := by
  unfold tm_bits
  split
  · omega
  · have := tm_bl_le 16 (D (d - 1)) (hD (d - 1) (by omega))
    omega
/-! The reference's other calls. -/
def tm_by (v k : Int32) : Int32 := (v >>> (k &&& 31)).toInt8.toInt32
def tm_f4 (f : Nat → Int32) (n : Nat) (v : Int32) : Nat → Int32 := upd (upd (upd (upd f n (tm_by v 24)) (n + 1) (tm_by v 16)) (n + 2) (tm_by v 8)) (n + 3) (tm_by v 0)
def tm_f20 (f : Nat → Int32) (n : Nat) (a b c d e : Int32) : Nat → Int32 := tm_f4 (tm_f4 (tm_f4 (tm_f4 (tm_f4 f n a) (n + 4) b) (n + 8) c) (n + 12) d) (n + 16) e
def tm_isT (n : Nat) (x : Int32) : Bool := !decide (x < 0) && decide (x < nI n)
theorem tm_isv {n : Nat} {x : Int32} (h0 : ¬ x < 0) (h : x < nI n) (hn : n ≤ 4096) : vp_in x 4096 := by
  refine tt_vin h0 (n := n) (fun z => ?_) hn (by decide)
  have a := Int32.lt_iff_toInt_lt.mp h
  have b := Int32.le_iff_toInt_le.mp z
  omega
theorem tm_isT_t {n : Nat} {x : Int32} (h : tm_isT n x = true) : ¬ x < 0 ∧ x < nI n := by
  simp only [tm_isT, Bool.and_eq_true, Bool.not_eq_true', decide_eq_false_iff_not, decide_eq_true_eq] at h
  exact h
/-- a new term in the reference's rows: 0 kinds, 1 parents, 2 begins, 3 ends, 4 markBegins, 5 markEnds -/
def tm_new (q : Nat → Nat → Int32) (n : Nat) (k pa : Int32) (i j : Nat) : Nat → Nat → Int32 :=
  tt_set (tt_set (tt_set (tt_set (tt_set (tt_set q 0 n k.toInt8.toInt32) 1 n pa) 2 n (nI i)) 3 n (nI j)) 4 n (-1)) 5 n (-1)
