/-! The class's limit: the same value. -/
theorem tt_digN {f : Nat → Int32} {n j : Nat} (h : tt_dig (tt_ch f n j) = true) : tt_ch f n j = nI (48 + tm_dv f n j) ∧ tm_dv f n j ≤ 9 := by
  have a := tt_dig_t h
  obtain ⟨k, hk, e⟩ := nI_of (x := tt_ch f n j) (fun z => a.1 (Int32.lt_trans z (by decide)))
  unfold tm_dv
  rw [e] at a ⊢
  rw [nI_clamp hk]
  have b1 : ¬ k < 48 := fun z => a.1 (show nI k < nI 48 from (nI_ltI hk (by decide)).mpr z)
  have b2 : ¬ 57 < k := fun z => a.2 (show nI 57 < nI k from (nI_ltI (by decide) hk).mpr z)
  exact ⟨by congr 1; omega, by omega⟩
def tt_ld (j : Nat) : Nat := (st_B 0 j &&& 255).toNatClampNeg - 48
theorem tt_ldN : ∀ j, j < 309 → st_B 0 j &&& 255 = nI (48 + tt_ld j) ∧ tt_ld j ≤ 9 := by decide +kernel
def tl (j : Nat) : Nat → Nat
  | 0 => 0
  | k + 1 => tl j k * 10 + tt_ld (j + k)
theorem tl_all : tl 0 309 = 2 ^ 1024 := by decide +kernel
theorem tl_add (j a : Nat) : ∀ b, tl j (a + b) = tl j a * 10 ^ b + tl (j + a) b := by
  intro b
  induction b with
  | zero => simp [tl]
  | succ b ih =>
    show tl j (a + b) * 10 + tt_ld (j + (a + b)) = tl j a * 10 ^ (b + 1) + (tl (j + a) b * 10 + tt_ld (j + a + b))
    rw [ih, Nat.add_mul, Nat.pow_succ, Nat.mul_assoc, Nat.add_assoc j a b]
    omega
theorem tl_lt {j : Nat} : ∀ (k : Nat), j + k ≤ 309 → tl j k < 10 ^ k := by
  intro k
  induction k with
  | zero => intro _; exact Nat.one_pos
  | succ k ih =>
    intro h
    have a := ih (by omega)
    have b := (tt_ldN (j + k) (by omega)).2
    show tl j k * 10 + tt_ld (j + k) < 10 ^ (k + 1)
    rw [Nat.pow_succ]
    omega
theorem tt_cmp_val {f : Nat → Int32} {n d : Nat} (hd : ∀ z, z < 309 → tt_dig (tt_ch f n (d + z)) = true) : ∀ (m j : Nat), 309 - j = m → j ≤ 309 → tt_cmp f n d j = decide (tl j m ≤ tv f n (d + j) m) := by
  intro m
  induction m with
  | zero =>
    intro j h1 h2
    rw [tt_cmp, dif_neg (by omega)]
    simp [tl, tv]
  | succ m ih =>
    intro j h1 h2
    have a := tt_digN (hd j (by omega))
    have b := tt_ldN j (by omega)
    have e1 : tv f n (d + j) (m + 1) = tm_dv f n (d + j) * 10 ^ m + tv f n (d + (j + 1)) m := by
      rw [Nat.add_comm m 1, tv_add]
      show (0 * 10 + tm_dv f n (d + j + 0)) * 10 ^ m + tv f n (d + j + 1) m = _
      rw [Nat.zero_mul, Nat.zero_add, Nat.add_zero, Nat.add_assoc d j 1]
    have e2 : tl j (m + 1) = tt_ld j * 10 ^ m + tl (j + 1) m := by
      rw [Nat.add_comm m 1, tl_add]
      show (0 * 10 + tt_ld (j + 0)) * 10 ^ m + tl (j + 1) m = _
      rw [Nat.zero_mul, Nat.zero_add, Nat.add_zero]
    have l1 : tv f n (d + (j + 1)) m < 10 ^ m := tv_lt m (fun z hz => by rw [Nat.add_assoc]; exact (tt_digN (hd (j + 1 + z) (by omega))).2)
    have l2 : tl (j + 1) m < 10 ^ m := tl_lt m (by omega)
    rw [tt_cmp, dif_pos (by omega), a.1, b.1, e1, e2]
    by_cases q : tm_dv f n (d + j) = tt_ld j
    · rw [if_pos (by rw [q]), ih (j + 1) (by omega) (by omega), q]
      exact decide_eq_decide.mpr (by omega)
    · rw [if_neg (fun z => q (by have := (nI_eq (a := 48 + tm_dv f n (d + j)) (b := 48 + tt_ld j) (by omega) (by omega)).mp z; omega))]
      refine decide_eq_decide.mpr ((nI_ltI (by omega) (by omega)).trans ?_)
      rcases Nat.lt_or_gt_of_ne q with w | w
      · have := Nat.mul_le_mul_right (10 ^ m) (show tm_dv f n (d + j) + 1 ≤ tt_ld j from w)
        rw [Nat.add_mul, Nat.one_mul] at this
        constructor
        · intro; omega
        · intro; omega
      · have := Nat.mul_le_mul_right (10 ^ m) (show tt_ld j + 1 ≤ tm_dv f n (d + j) from w)
        rw [Nat.add_mul, Nat.one_mul] at this
        constructor
        · intro; omega
        · intro; omega
theorem tt_sw_all {P : Nat → Bool} {n : Nat} : ∀ (k i : Nat), n - i ≤ k → (∀ z, i ≤ z → z < tt_sw P n i → P z = true) ∧ (tt_sw P n i < n → P (tt_sw P n i) = false) := by
  intro k
  induction k with
  | zero =>
    intro i h
    rw [tt_sw_out (fun z => by omega)]
    exact ⟨fun z h1 h2 => by omega, fun h1 => by omega⟩
  | succ k ih =>
    intro i h
    by_cases q : i < n ∧ P i = true
    · have := ih (i + 1) (by omega)
      rw [tt_sw_in q.1 q.2] at this
      refine ⟨fun z h1 h2 => ?_, this.2⟩
      rcases Nat.eq_or_lt_of_le h1 with w | w
      · rw [← w]; exact q.2
      · exact this.1 z w h2
    · rw [tt_sw_out q]
      refine ⟨fun z h1 h2 => by omega, fun h1 => ?_⟩
      cases hp : P i with
      | false => rfl
      | true => exact absurd ⟨h1, hp⟩ q
theorem tv_0 {f : Nat → Int32} {n j : Nat} : ∀ (k : Nat), (∀ z, z < k → tm_dv f n (j + z) = 0) → tv f n j k = 0 := by
  intro k
  induction k with
  | zero => intro _; rfl
  | succ k ih =>
    intro h
    show tv f n j k * 10 + tm_dv f n (j + k) = 0
    rw [ih (fun z hz => h z (by omega)), h k (by omega)]
/-- the first digit that is not 0 -/
theorem tt_fd_val {f : Nat → Int32} {n x y : Nat} (hy : tm_st0 f n x ≤ y) (hd : ∀ z, tm_st0 f n x ≤ z → z < y → tt_dig (tt_ch f n z) = true) : tm_st0 f n x ≤ tt_fd f n x y ∧ tt_fd f n x y ≤ y ∧ tv f n (tm_st0 f n x) (y - tm_st0 f n x) = tv f n (tt_fd f n x y) (y - tt_fd f n x y) ∧ (tt_fd f n x y < y → 1 ≤ tm_dv f n (tt_fd f n x y)) := by
  have hb := tt_swb (fun j => decide (tt_ch f n j = 48)) y (tm_st0 f n x)
  have ha := tt_sw_all (P := fun j => decide (tt_ch f n j = 48)) (n := y) _ (tm_st0 f n x) (Nat.le_refl _)
  have e : tt_fd f n x y = tt_sw (fun j => decide (tt_ch f n j = 48)) y (tm_st0 f n x) := rfl
  rw [← e] at hb ha
  have h2 : tt_fd f n x y ≤ y := by omega
  refine ⟨hb.1, h2, ?_, fun h => ?_⟩
  · rw [show y - tm_st0 f n x = (tt_fd f n x y - tm_st0 f n x) + (y - tt_fd f n x y) by omega, tv_add, tv_0 _ (fun z hz => ?_), Nat.zero_mul, Nat.zero_add, show tm_st0 f n x + (tt_fd f n x y - tm_st0 f n x) = tt_fd f n x y by omega]
    have := ha.1 (tm_st0 f n x + z) (by omega) (by omega)
    unfold tm_dv
    rw [of_decide_eq_true this]
    decide
  · have w := of_decide_eq_false (ha.2 h)
    have g := tt_digN (hd _ hb.1 h)
    rcases Nat.eq_zero_or_pos (tm_dv f n (tt_fd f n x y)) with q | q
    · rw [q] at g
      exact absurd g.1 w
    · exact q
theorem tt_big_val {f : Nat → Int32} {n x y : Nat} (hy : tm_st0 f n x ≤ y) (hd : ∀ z, tm_st0 f n x ≤ z → z < y → tt_dig (tt_ch f n z) = true) : tt_big f n x y = decide (2 ^ 1024 ≤ tv f n (tm_st0 f n x) (y - tm_st0 f n x)) := by
  obtain ⟨h1, h2, h3, h4⟩ := tt_fd_val hy hd
  rw [h3]
  unfold tt_big
  have hd' : ∀ z, z < y - tt_fd f n x y → tt_dig (tt_ch f n (tt_fd f n x y + z)) = true := fun z hz => hd _ (by omega) (by omega)
  have hlt := tv_lt (f := f) (n := n) (j := tt_fd f n x y) (y - tt_fd f n x y) (fun z hz => (tt_digN (hd' z hz)).2)
  by_cases q : y - tt_fd f n x y = 309
  · rw [if_pos q]
    rw [q] at hd'
    rw [q, tt_cmp_val hd' 309 0 rfl (by decide), tl_all, Nat.add_zero]
  · rw [if_neg q]
    refine decide_eq_decide.mpr ?_
    rcases Nat.lt_or_gt_of_ne q with w | w
    · have a : 10 ^ (y - tt_fd f n x y) ≤ 10 ^ 308 := Nat.pow_le_pow_right (by decide) (by omega)
      have b : (10 : Nat) ^ 308 ≤ 2 ^ 1024 := by decide +kernel
      constructor
      · intro z; omega
      · intro z
        exact absurd (Nat.lt_of_lt_of_le (Nat.lt_of_lt_of_le hlt a) b) (Nat.not_lt.mpr z)
    · have a : 10 ^ 309 ≤ 10 ^ (y - tt_fd f n x y - 1) := Nat.pow_le_pow_right (by decide) (by omega)
      have b : (2 : Nat) ^ 1024 ≤ 10 ^ 309 := by decide +kernel
      have c := h4 (by omega)
      have e1 : tv f n (tt_fd f n x y) (y - tt_fd f n x y) = tm_dv f n (tt_fd f n x y) * 10 ^ (y - tt_fd f n x y - 1) + tv f n (tt_fd f n x y + 1) (y - tt_fd f n x y - 1) := by
        conv => lhs; rw [show y - tt_fd f n x y = 1 + (y - tt_fd f n x y - 1) by omega, tv_add]
        show (0 * 10 + tm_dv f n (tt_fd f n x y + 0)) * 10 ^ (y - tt_fd f n x y - 1) + _ = _
        rw [Nat.zero_mul, Nat.zero_add, Nat.add_zero]
      have g := Nat.mul_le_mul_right (10 ^ (y - tt_fd f n x y - 1)) c
      rw [Nat.one_mul] at g
      refine ⟨fun _ => ?_, fun _ => w⟩
      rw [e1]
      exact Nat.le_trans (Nat.le_trans (Nat.le_trans b a) g) (Nat.le_add_right _ _)
/-- one limit -/
theorem tm_NB (f : Nat → Int32) (n : Nat) (dg : Nat → Nat) (i : Nat) (h : tt_tok f n i = 0) : tm_num f n i (tt_to f n i) dg = !tt_big f n i (tt_to f n i) := by
  obtain ⟨h1, h2, h3⟩ := tt_numdig h
  have hy : tm_st0 f n i ≤ tt_to f n i := by
    unfold tm_st0
    split <;> omega
  rw [tm_num_val hy (fun z a b => (tt_digN (h3 z a b)).2), tt_big_val hy h3]
  by_cases q : tv f n (tm_st0 f n i) (tt_to f n i - tm_st0 f n i) < 2 ^ 1024
  · rw [decide_eq_true q, decide_eq_false (Nat.not_le.mpr q)]
    rfl
  · rw [decide_eq_false q, decide_eq_true (Nat.not_lt.mp q)]
    rfl
