/-! A number's value; the reference's digits of 16 bits. -/
def tv (f : Nat → Int32) (n j : Nat) : Nat → Nat
  | 0 => 0
  | k + 1 => tv f n j k * 10 + tm_dv f n (j + k)
theorem tv_add (f : Nat → Int32) (n j a : Nat) : ∀ b, tv f n j (a + b) = tv f n j a * 10 ^ b + tv f n (j + a) b := by
  intro b
  induction b with
  | zero => simp [tv]
  | succ b ih =>
    show tv f n j (a + b) * 10 + tm_dv f n (j + (a + b)) = tv f n j a * 10 ^ (b + 1) + (tv f n (j + a) b * 10 + tm_dv f n (j + a + b))
    rw [ih, Nat.add_mul, Nat.pow_succ, Nat.mul_assoc, Nat.add_assoc j a b]
    omega
theorem tv_lt {f : Nat → Int32} {n j : Nat} : ∀ (k : Nat), (∀ z, z < k → tm_dv f n (j + z) ≤ 9) → tv f n j k < 10 ^ k := by
  intro k
  induction k with
  | zero => intro _; exact Nat.one_pos
  | succ k ih =>
    intro h
    have a := ih (fun z hz => h z (by omega))
    have b := h k (by omega)
    show tv f n j k * 10 + tm_dv f n (j + k) < 10 ^ (k + 1)
    rw [Nat.pow_succ]
    omega
def tm_val (D : Nat → Nat) : Nat → Nat
  | 0 => 0
  | k + 1 => tm_val D k + D k * 65536 ^ k
theorem tm_val_congr {D E : Nat → Nat} : ∀ (d : Nat), (∀ k, k < d → D k = E k) → tm_val D d = tm_val E d := by
  intro d
  induction d with
  | zero => intro _; rfl
  | succ d ih =>
    intro h
    show tm_val D d + D d * 65536 ^ d = tm_val E d + E d * 65536 ^ d
    rw [ih (fun k hk => h k (by omega)), h d (by omega)]
theorem tm_val_lt {D : Nat → Nat} : ∀ (d : Nat), (∀ k, k < d → D k < 65536) → tm_val D d < 65536 ^ d := by
  intro d
  induction d with
  | zero => intro _; exact Nat.one_pos
  | succ d ih =>
    intro h
    have a := ih (fun k hk => h k (by omega))
    have b := h d (by omega)
    show tm_val D d + D d * 65536 ^ d < 65536 ^ (d + 1)
    rw [Nat.pow_succ, Nat.mul_comm (65536 ^ d) 65536]
    have c : D d * 65536 ^ d ≤ 65535 * 65536 ^ d := Nat.mul_le_mul_right _ (by omega)
    omega
theorem tm_in_val {D : Nat → Nat} {c Q : Nat} : ∀ (q : Nat), q ≤ Q → tm_val (tm_in D c Q) q + tm_mc D c q * 65536 ^ q = 10 * tm_val D q + c := by
  intro q
  induction q with
  | zero => intro _; simp [tm_val, tm_mc]
  | succ q ih =>
    intro h
    have a := ih (by omega)
    have e : tm_in D c Q q = (10 * D q + tm_mc D c q) % 65536 := by
      unfold tm_in
      rw [if_pos (by omega)]
    show tm_val (tm_in D c Q) q + tm_in D c Q q * 65536 ^ q + (10 * D q + tm_mc D c q) / 65536 * 65536 ^ (q + 1) = 10 * (tm_val D q + D q * 65536 ^ q) + c
    rw [e, Nat.pow_succ, Nat.mul_comm (65536 ^ q) 65536, ← Nat.mul_assoc]
    have b : (10 * D q + tm_mc D c q) % 65536 * 65536 ^ q + (10 * D q + tm_mc D c q) / 65536 * 65536 * 65536 ^ q = (10 * D q + tm_mc D c q) * 65536 ^ q := by
      rw [← Nat.add_mul]
      congr 1
      omega
    rw [Nat.add_mul, Nat.mul_assoc 10] at b
    omega
def tm_OK (s : (Nat → Nat) × Nat) : Prop := (∀ k, k < s.2 → s.1 k < 65536) ∧ (0 < s.2 → 0 < s.1 (s.2 - 1))
theorem tm_step_val {s : (Nat → Nat) × Nat} {c : Nat} (h : tm_OK s) (hc : c ≤ 9) : tm_OK (tm_step s c) ∧ tm_val (tm_step s c).1 (tm_step s c).2 = 10 * tm_val s.1 s.2 + c := by
  obtain ⟨D, d⟩ := s
  obtain ⟨h1, h2⟩ := h
  have hv := tm_in_val (D := D) (c := c) (Q := d) d (Nat.le_refl _)
  have h9 := tm_mc_le h1 hc
  have hin : ∀ k, k < d → tm_in D c d k < 65536 := fun k hk => by
    unfold tm_in
    rw [if_pos hk]
    exact Nat.mod_lt _ (by decide)
  unfold tm_step
  dsimp only at *
  by_cases z : tm_mc D c d = 0
  · rw [if_pos z]
    refine ⟨⟨hin, fun hd => ?_⟩, ?_⟩
    · dsimp only at *
      have t := h2 hd
      obtain ⟨k, rfl⟩ : ∃ k, d = k + 1 := ⟨d - 1, by omega⟩
      have z' : (10 * D k + tm_mc D c k) / 65536 = 0 := z
      show 0 < tm_in D c (k + 1) (k + 1 - 1)
      unfold tm_in
      rw [if_pos (by omega), Nat.add_sub_cancel]
      have t' : 0 < D k := t
      omega
    · rw [z, Nat.zero_mul, Nat.add_zero] at hv
      exact hv
  · rw [if_neg z]
    refine ⟨⟨fun k hk => ?_, fun _ => ?_⟩, ?_⟩
    · show tm_put (tm_in D c d) d (tm_mc D c d) k < 65536
      unfold tm_put
      have := h9 d (Nat.le_refl _)
      split
      · omega
      · exact hin k (by have : k < d + 1 := hk; omega)
    · show 0 < tm_put (tm_in D c d) d (tm_mc D c d) (d + 1 - 1)
      unfold tm_put
      rw [if_pos (by omega)]
      omega
    · show tm_val (tm_put (tm_in D c d) d (tm_mc D c d)) d + tm_put (tm_in D c d) d (tm_mc D c d) d * 65536 ^ d = _
      rw [tm_val_congr (E := tm_in D c d) d (fun k hk => by unfold tm_put; rw [if_neg (by omega)])]
      have : tm_put (tm_in D c d) d (tm_mc D c d) d = tm_mc D c d := by unfold tm_put; rw [if_pos rfl]
      rw [this]
      exact hv
theorem tm_val_ge {D : Nat → Nat} {d : Nat} (hd : 0 < d) (h : 0 < D (d - 1)) : 65536 ^ (d - 1) ≤ tm_val D d := by
  obtain ⟨k, rfl⟩ : ∃ k, d = k + 1 := ⟨d - 1, by omega⟩
  rw [Nat.add_sub_cancel] at h ⊢
  show 65536 ^ k ≤ tm_val D k + D k * 65536 ^ k
  have := Nat.mul_le_mul_right (65536 ^ k) (show 1 ≤ D k from h)
  omega
theorem tm_nl_val {f : Nat → Int32} {n y : Nat} : ∀ (m j : Nat) (s : (Nat → Nat) × Nat), y - j ≤ m → j ≤ y → tm_OK s → (∀ z, j ≤ z → z < y → tm_dv f n z ≤ 9) →
    ((tm_nl f n y j s).1 = true ∧ tm_OK (tm_nl f n y j s).2 ∧ tm_val (tm_nl f n y j s).2.1 (tm_nl f n y j s).2.2 = tm_val s.1 s.2 * 10 ^ (y - j) + tv f n j (y - j)) ∨ ((tm_nl f n y j s).1 = false ∧ 2 ^ 1024 ≤ tm_val s.1 s.2 * 10 ^ (y - j) + tv f n j (y - j)) := by
  intro m
  induction m with
  | zero =>
    intro j s h1 h2 h3 h4
    have : y - j = 0 := by omega
    rw [tm_nl, dif_neg (by omega), this]
    exact Or.inl ⟨rfl, h3, by simp [tv]⟩
  | succ m ih =>
    intro j s h1 h2 h3 h4
    rcases Nat.lt_or_ge j y with hj | hj
    · have hs := tm_step_val h3 (h4 j (Nat.le_refl _) hj)
      have e : y - j = 1 + (y - (j + 1)) := by omega
      have ev : tm_val s.1 s.2 * 10 ^ (y - j) + tv f n j (y - j) = tm_val (tm_step s (tm_dv f n j)).1 (tm_step s (tm_dv f n j)).2 * 10 ^ (y - (j + 1)) + tv f n (j + 1) (y - (j + 1)) := by
        rw [hs.2, e, tv_add, Nat.pow_add, ← Nat.mul_assoc]
        show tm_val s.1 s.2 * 10 ^ 1 * 10 ^ (y - (j + 1)) + ((0 * 10 + tm_dv f n (j + 0)) * 10 ^ (y - (j + 1)) + tv f n (j + 1) (y - (j + 1))) = _
        rw [← Nat.add_assoc, ← Nat.add_mul, Nat.pow_one, Nat.zero_mul, Nat.zero_add, Nat.add_zero, Nat.mul_comm (tm_val s.1 s.2) 10]
      rw [ev, tm_nl, dif_pos hj]
      by_cases z : 66 < (tm_step s (tm_dv f n j)).2
      · rw [if_pos z]
        refine Or.inr ⟨rfl, ?_⟩
        have g := tm_val_ge (by omega) (hs.1.2 (by omega))
        have g2 : 65536 ^ 66 ≤ 65536 ^ ((tm_step s (tm_dv f n j)).2 - 1) := Nat.pow_le_pow_right (by decide) (by omega)
        have g3 : (2 : Nat) ^ 1024 ≤ 65536 ^ 66 := by decide +kernel
        have g4 : tm_val (tm_step s (tm_dv f n j)).1 (tm_step s (tm_dv f n j)).2 * 1 ≤ tm_val (tm_step s (tm_dv f n j)).1 (tm_step s (tm_dv f n j)).2 * 10 ^ (y - (j + 1)) := Nat.mul_le_mul_left _ (Nat.pow_pos (by decide))
        generalize (2 : Nat) ^ 1024 = P1 at *
        generalize (65536 : Nat) ^ 66 = P2 at *
        omega
      · rw [if_neg z]
        exact ih (j + 1) _ (by omega) (by omega) hs.1 (fun z hz hz2 => h4 z (by omega) hz2)
    · have : y - j = 0 := by omega
      rw [tm_nl, dif_neg (by omega), this]
      exact Or.inl ⟨rfl, h3, by simp [tv]⟩
theorem tm_bl_b : ∀ (k v : Nat), v ≤ k → 0 < v → v < 2 ^ tm_bl v ∧ 2 ^ tm_bl v ≤ 2 * v := by
  intro k
  induction k with
  | zero => intro v h1 h2; omega
  | succ k ih =>
    intro v h1 h2
    rw [tm_bl_in h2, Nat.pow_add]
    rcases Nat.eq_zero_or_pos (v / 2) with z | z
    · rw [z, tm_bl_0]
      omega
    · have := ih (v / 2) (by omega) z
      omega
theorem tm_bits_val {s : (Nat → Nat) × Nat} (h : tm_OK s) : tm_bits s.1 s.2 ≤ 1024 ↔ tm_val s.1 s.2 < 2 ^ 1024 := by
  obtain ⟨D, d⟩ := s
  obtain ⟨h1, h2⟩ := h
  dsimp only at *
  unfold tm_bits
  rcases Nat.eq_zero_or_pos d with z | z
  · subst z
    simp [tm_val]
    exact Nat.pow_pos (by decide)
  · rw [if_neg (by omega)]
    have t := h2 z
    obtain ⟨k, rfl⟩ : ∃ k, d = k + 1 := ⟨d - 1, by omega⟩
    rw [Nat.add_sub_cancel] at t ⊢
    have b := tm_bl_b (D k) (D k) (Nat.le_refl _) t
    have lo := tm_val_lt k (fun i hi => h1 i (by omega))
    have e16 : (65536 : Nat) ^ k = 2 ^ (16 * k) := by rw [Nat.pow_mul]
    have hv : tm_val D (k + 1) = tm_val D k + D k * 65536 ^ k := rfl
    have up : tm_val D (k + 1) < 2 ^ (16 * k + tm_bl (D k)) := by
      rw [hv, Nat.pow_add, ← e16]
      have : (D k + 1) * 65536 ^ k ≤ 2 ^ tm_bl (D k) * 65536 ^ k := Nat.mul_le_mul_right _ b.1
      rw [Nat.add_mul, Nat.one_mul] at this
      rw [Nat.mul_comm (65536 ^ k)]
      omega
    have dn : 2 ^ (16 * k + tm_bl (D k)) ≤ 2 * tm_val D (k + 1) := by
      rw [hv, Nat.pow_add, ← e16, Nat.mul_comm]
      have : 2 ^ tm_bl (D k) * 65536 ^ k ≤ 2 * D k * 65536 ^ k := Nat.mul_le_mul_right _ b.2
      rw [Nat.mul_assoc] at this
      omega
    constructor
    · intro q
      exact Nat.lt_of_lt_of_le up (Nat.pow_le_pow_right (by decide) q)
    · intro q
      rcases Nat.lt_or_ge 1024 (16 * k + tm_bl (D k)) with w | w
      · have g : 2 ^ 1025 ≤ 2 ^ (16 * k + tm_bl (D k)) := Nat.pow_le_pow_right (by decide) w
        rw [Nat.pow_succ] at g
        generalize (2 : Nat) ^ 1024 = P1 at *
        omega
      · exact w
theorem tm_num_val {f : Nat → Int32} {n x y : Nat} {dg : Nat → Nat} (hy : tm_st0 f n x ≤ y) (h9 : ∀ z, tm_st0 f n x ≤ z → z < y → tm_dv f n z ≤ 9) : tm_num f n x y dg = decide (tv f n (tm_st0 f n x) (y - tm_st0 f n x) < 2 ^ 1024) := by
  have h := tm_nl_val (f := f) (n := n) (y := y) (y - tm_st0 f n x) (tm_st0 f n x) (dg, 0) (Nat.le_refl _) hy ⟨fun k hk => absurd hk (Nat.not_lt_zero _), fun hk => absurd hk (Nat.lt_irrefl _)⟩ h9
  have e : tm_val dg 0 * 10 ^ (y - tm_st0 f n x) + tv f n (tm_st0 f n x) (y - tm_st0 f n x) = tv f n (tm_st0 f n x) (y - tm_st0 f n x) := by
    show 0 * _ + _ = _
    rw [Nat.zero_mul, Nat.zero_add]
  dsimp only at h
  rw [e] at h
  unfold tm_num
  rcases h with ⟨h1, h2, h3⟩ | ⟨h1, h2⟩
  · rw [h1, Bool.true_and, ← h3]
    exact decide_eq_decide.mpr (tm_bits_val h2)
  · rw [h1, Bool.false_and]
    exact (decide_eq_false (Nat.not_lt.mpr h2)).symm
