/-! Numbers: bits of one value, out of digits of any base 2 ^ w. -/
def gv (B : Nat) (D : Nat → Nat) : Nat → Nat
  | 0 => 0
  | k + 1 => gv B D k + D k * B ^ k
theorem gv_tm (D : Nat → Nat) : ∀ d, tm_val D d = gv 65536 D d := by
  intro d
  induction d with
  | zero => rfl
  | succ d ih => show tm_val D d + D d * 65536 ^ d = gv 65536 D d + D d * 65536 ^ d; rw [ih]
theorem gv_lt {B : Nat} {D : Nat → Nat} : ∀ (d : Nat), (∀ k, k < d → D k < B) → gv B D d < B ^ d := by
  intro d
  induction d with
  | zero => intro _; exact Nat.one_pos
  | succ d ih =>
    intro h
    have a := ih (fun k hk => h k (by omega))
    have b := h d (by omega)
    show gv B D d + D d * B ^ d < B ^ (d + 1)
    have c : (D d + 1) * B ^ d ≤ B * B ^ d := Nat.mul_le_mul_right _ b
    rw [Nat.add_mul, Nat.one_mul] at c
    rw [Nat.pow_succ, Nat.mul_comm (B ^ d) B]
    omega
theorem gv_congr {B : Nat} {D E : Nat → Nat} : ∀ (d : Nat), (∀ k, k < d → D k = E k) → gv B D d = gv B E d := by
  intro d
  induction d with
  | zero => intro _; rfl
  | succ d ih =>
    intro h
    show gv B D d + D d * B ^ d = gv B E d + E d * B ^ d
    rw [ih (fun k hk => h k (by omega)), h d (by omega)]
theorem gv_dig {B : Nat} {D : Nat → Nat} (hB : 0 < B) : ∀ (d k : Nat), (∀ k, k < d → D k < B) → k < d → gv B D d / B ^ k % B = D k := by
  intro d
  induction d with
  | zero => intro k _ hk; omega
  | succ d ih =>
    intro k h hk
    have lo := gv_lt d (fun i hi => h i (by omega))
    show (gv B D d + D d * B ^ d) / B ^ k % B = D k
    rcases Nat.lt_or_ge k d with q | q
    · rw [show d = k + 1 + (d - (k + 1)) by omega, Nat.pow_add, Nat.pow_succ]
      rw [show D (k + 1 + (d - (k + 1))) * (B ^ k * B * B ^ (d - (k + 1))) = B ^ k * (B * (D (k + 1 + (d - (k + 1))) * B ^ (d - (k + 1)))) by
        rw [Nat.mul_comm (D _), Nat.mul_assoc, Nat.mul_assoc, Nat.mul_comm (B ^ (d - (k + 1)))]]
      rw [Nat.add_mul_div_left _ _ (Nat.pow_pos hB), Nat.add_mul_mod_self_left, ← show d = k + 1 + (d - (k + 1)) by omega]
      exact ih k (fun i hi => h i (by omega)) q
    · have e : k = d := by omega
      subst e
      rw [Nat.add_mul_div_right _ _ (Nat.pow_pos hB), Nat.div_eq_of_lt lo, Nat.zero_add]
      exact Nat.mod_eq_of_lt (h k hk)
theorem tt_bit_mod {W a r : Nat} (h : r < a) : W % 2 ^ a / 2 ^ r % 2 = W / 2 ^ r % 2 := by
  have e := Nat.testBit_mod_two_pow W a r
  rw [Nat.testBit_eq_decide_div_mod_eq, Nat.testBit_eq_decide_div_mod_eq, decide_eq_true h, Bool.true_and] at e
  have e2 := decide_eq_decide.mp e
  have l1 : W % 2 ^ a / 2 ^ r % 2 < 2 := Nat.mod_lt _ (by decide)
  have l2 : W / 2 ^ r % 2 < 2 := Nat.mod_lt _ (by decide)
  omega
/-- bit i of the value: in digit i / w -/
theorem gv_bit {w d i : Nat} {D : Nat → Nat} (hw : 0 < w) (h : ∀ k, k < d → D k < 2 ^ w) (hi : i < w * d) : gv (2 ^ w) D d / 2 ^ i % 2 = D (i / w) / 2 ^ (i % w) % 2 := by
  have hk : i / w < d := Nat.div_lt_of_lt_mul hi
  have e := gv_dig (Nat.pow_pos (by decide)) d (i / w) h hk
  rw [← e, tt_bit_mod (Nat.mod_lt _ hw), ← Nat.pow_mul, Nat.div_div_eq_div_mul, ← Nat.pow_add, Nat.div_add_mod]
/-- two that are the length of one value are one -/
theorem tt_len_eq {V a b : Nat} (ha : ∀ e, V < 2 ^ e ↔ a ≤ e) (hb : ∀ e, V < 2 ^ e ↔ b ≤ e) : a = b := Nat.le_antisymm ((ha b).mp ((hb b).mpr (Nat.le_refl _))) ((hb a).mp ((ha a).mpr (Nat.le_refl _)))
theorem tm_bits_len {s : (Nat → Nat) × Nat} (h : tm_OK s) (e : Nat) : tm_val s.1 s.2 < 2 ^ e ↔ tm_bits s.1 s.2 ≤ e := by
  obtain ⟨D, d⟩ := s
  obtain ⟨h1, h2⟩ := h
  dsimp only at *
  unfold tm_bits
  rcases Nat.eq_zero_or_pos d with z | z
  · subst z
    simp [tm_val]
    exact Nat.pow_pos (by decide)
  · rw [if_neg (by omega)]
    have t := h2 z
    obtain ⟨k, rfl⟩ : ∃ k, d = k + 1 := ⟨d - 1, by omega⟩
    rw [Nat.add_sub_cancel] at t ⊢
    have b := tm_bl_b (D k) (D k) (Nat.le_refl _) t
    have lo := tm_val_lt k (fun i hi => h1 i (by omega))
    have e16 : (65536 : Nat) ^ k = 2 ^ (16 * k) := by rw [Nat.pow_mul]
    have hv : tm_val D (k + 1) = tm_val D k + D k * 65536 ^ k := rfl
    have up : tm_val D (k + 1) < 2 ^ (16 * k + tm_bl (D k)) := by
      rw [hv, Nat.pow_add, ← e16]
      have : (D k + 1) * 65536 ^ k ≤ 2 ^ tm_bl (D k) * 65536 ^ k := Nat.mul_le_mul_right _ b.1
      rw [Nat.add_mul, Nat.one_mul] at this
      rw [Nat.mul_comm (65536 ^ k)]
      omega
    have dn : 2 ^ (16 * k + tm_bl (D k)) ≤ 2 * tm_val D (k + 1) := by
      rw [hv, Nat.pow_add, ← e16, Nat.mul_comm]
      have : 2 ^ tm_bl (D k) * 65536 ^ k ≤ 2 * D k * 65536 ^ k := Nat.mul_le_mul_right _ b.2
      rw [Nat.mul_assoc] at this
      omega
    constructor
    · intro q
      rcases Nat.lt_or_ge e (16 * k + tm_bl (D k)) with w | w
      · have g : 2 ^ (e + 1) ≤ 2 ^ (16 * k + tm_bl (D k)) := Nat.pow_le_pow_right (by decide) w
        rw [Nat.pow_succ] at g
        omega
      · exact w
    · intro q
      exact Nat.lt_of_lt_of_le up (Nat.pow_le_pow_right (by decide) q)
theorem tt_btF_len {L : Nat → Nat} {u V : Nat} (hV : V = gv 4294967296 L u) (hL : ∀ k, k < u → L k < 4294967296) : ∀ (b : Nat), b ≤ 32 * u → ∀ e, V % 2 ^ b < 2 ^ e ↔ tt_btF L b ≤ e := by
  intro b
  induction b with
  | zero =>
    intro _ e
    rw [Nat.pow_zero, Nat.mod_one]
    exact ⟨fun _ => Nat.zero_le _, fun _ => Nat.pow_pos (by decide)⟩
  | succ b ih =>
    intro hb e
    have bit : tt_bitN L b = V / 2 ^ b % 2 := by
      rw [hV]
      exact (gv_bit (w := 32) (d := u) (D := L) (by decide) hL (by omega)).symm
    rw [Nat.mod_pow_succ, ← bit, tt_btF]
    by_cases z : tt_bitN L b = 0
    · rw [if_pos z, z, Nat.mul_zero, Nat.add_zero]
      exact ih (by omega) e
    · have o : tt_bitN L b = 1 := by have := tt_bitN_lt L b; omega
      rw [if_neg z, o, Nat.mul_one]
      have lt : V % 2 ^ b < 2 ^ b := Nat.mod_lt _ (Nat.pow_pos (by decide))
      constructor
      · intro q
        rcases Nat.lt_or_ge b e with w | w
        · exact w
        · have := Nat.pow_le_pow_right (n := 2) (by decide) w
          omega
      · intro q
        have := Nat.pow_le_pow_right (n := 2) (by decide) q
        rw [Nat.pow_succ] at this
        omega
theorem tt_btF_lenN {L : Nat → Nat} {u : Nat} (hL : ∀ k, k < u → L k < 4294967296) (e : Nat) : gv 4294967296 L u < 2 ^ e ↔ tt_btF L (32 * u) ≤ e := by
  have a := tt_btF_len (V := gv 4294967296 L u) rfl hL (32 * u) (Nat.le_refl _) e
  have b := gv_lt u hL
  rw [show (4294967296 : Nat) ^ u = 2 ^ (32 * u) by rw [Nat.pow_mul]] at b
  rw [Nat.mod_eq_of_lt b] at a
  exact a
/-! The class's limbs. -/
theorem tt_mi_val {L : Nat → Nat} {a b Q : Nat} : ∀ (q : Nat), q ≤ Q → gv 4294967296 (tt_mi L a b Q) q + tt_mc L a b q * 4294967296 ^ q = gv 4294967296 L q * a + b := by
  intro q
  induction q with
  | zero => intro _; simp [gv, tt_mc]
  | succ q ih =>
    intro h
    have i := ih (by omega)
    have e : tt_mi L a b Q q = (L q * a + tt_mc L a b q) % 4294967296 := by
      unfold tt_mi
      rw [if_pos (by omega)]
    show gv 4294967296 (tt_mi L a b Q) q + tt_mi L a b Q q * 4294967296 ^ q + (L q * a + tt_mc L a b q) / 4294967296 * 4294967296 ^ (q + 1) = (gv 4294967296 L q + L q * 4294967296 ^ q) * a + b
    rw [e, Nat.pow_succ, Nat.mul_comm (4294967296 ^ q) 4294967296, ← Nat.mul_assoc]
    have b2 : (L q * a + tt_mc L a b q) % 4294967296 * 4294967296 ^ q + (L q * a + tt_mc L a b q) / 4294967296 * 4294967296 * 4294967296 ^ q = (L q * a + tt_mc L a b q) * 4294967296 ^ q := by
      rw [← Nat.add_mul]
      congr 1
      omega
    rw [Nat.add_mul (L q * a), Nat.mul_right_comm (L q) a] at b2
    rw [Nat.add_mul]
    omega
theorem tt_ma_val {L : Nat → Nat} {u a b : Nat} (hu : u ≤ 32) (h : gv 4294967296 L u * a + b < 2 ^ 1024) : gv 4294967296 (tt_ma (L, u) a b).1 (tt_ma (L, u) a b).2 = gv 4294967296 L u * a + b := by
  have v := tt_mi_val (L := L) (a := a) (b := b) (Q := u) u (Nat.le_refl _)
  unfold tt_ma
  dsimp only
  by_cases z : tt_mc L a b u = 0
  · rw [if_pos z]
    rw [z, Nat.zero_mul, Nat.add_zero] at v
    exact v
  · rw [if_neg z]
    by_cases q : 32 ≤ u
    · exfalso
      have e : u = 32 := by omega
      subst e
      have c := Nat.mul_le_mul_right (4294967296 ^ 32) (show 1 ≤ tt_mc L a b 32 by omega)
      rw [Nat.one_mul] at c
      have k : (4294967296 : Nat) ^ 32 = 2 ^ 1024 := by decide +kernel
      rw [k] at c v
      generalize (2 : Nat) ^ 1024 = P1 at *
      omega
    · rw [if_neg q]
      show gv 4294967296 (tm_put (tt_mi L a b u) u (tt_mc L a b u)) u + tm_put (tt_mi L a b u) u (tt_mc L a b u) u * 4294967296 ^ u = _
      rw [gv_congr (E := tt_mi L a b u) u (fun k hk => by unfold tm_put; rw [if_neg (by omega)])]
      have : tm_put (tt_mi L a b u) u (tt_mc L a b u) u = tt_mc L a b u := by unfold tm_put; rw [if_pos rfl]
      rw [this]
      exact v
theorem tt_tk_val {f : Nat → Int32} {n y : Nat} : ∀ (m j : Nat) (L : Nat → Nat) (u sc v : Nat), y - j ≤ m → j ≤ y → (∀ k, j ≤ k → k < y → tm_dv f n k ≤ 9) → u ≤ 32 → (∀ k, k < u → L k < 4294967296) → (sc = 1 ∨ sc = 10 ∨ sc = 100 ∨ sc = 1000 ∨ sc = 10000 ∨ sc = 100000 ∨ sc = 1000000 ∨ sc = 10000000 ∨ sc = 100000000) → v < sc → (j < y ∨ (sc = 1 ∧ v = 0)) →
    (gv 4294967296 L u * sc + v) * 10 ^ (y - j) + tv f n j (y - j) < 2 ^ 1024 → gv 4294967296 (tt_tk f n y j (L, u) sc v).1 (tt_tk f n y j (L, u) sc v).2 = (gv 4294967296 L u * sc + v) * 10 ^ (y - j) + tv f n j (y - j) := by
  intro m
  induction m with
  | zero =>
    intro j L u sc v h1 h2 h3 h4 h5 h6 h7 h8 h9
    have : y - j = 0 := by omega
    rw [tt_tk, dif_neg (by omega), this]
    rcases h8 with w | ⟨w1, w2⟩
    · omega
    · rw [w1, w2]
      simp [tv]
  | succ m ih =>
    intro j L u sc v h1 h2 h3 h4 h5 h6 h7 h8 h9
    rcases Nat.lt_or_ge j y with hj | hj
    · have hd := h3 j (Nat.le_refl _) hj
      have e : y - j = 1 + (y - (j + 1)) := by omega
      have ev : (gv 4294967296 L u * sc + v) * 10 ^ (y - j) + tv f n j (y - j) = (gv 4294967296 L u * (sc * 10) + (v * 10 + tm_dv f n j)) * 10 ^ (y - (j + 1)) + tv f n (j + 1) (y - (j + 1)) := by
        rw [e, tv_add, Nat.pow_add, ← Nat.mul_assoc]
        show (gv 4294967296 L u * sc + v) * 10 ^ 1 * 10 ^ (y - (j + 1)) + ((0 * 10 + tm_dv f n (j + 0)) * 10 ^ (y - (j + 1)) + tv f n (j + 1) (y - (j + 1))) = _
        rw [← Nat.add_assoc, ← Nat.add_mul, Nat.pow_one, Nat.zero_mul, Nat.zero_add, Nat.add_zero, Nat.add_mul (gv 4294967296 L u * sc), Nat.mul_assoc, Nat.add_assoc]
      rw [ev] at h9 ⊢
      rw [tt_tk, dif_pos hj]
      by_cases q : sc * 10 = 1000000000 ∨ j = y - 1
      · rw [if_pos q]
        have hs := tt_ma_ok h5 (a := sc * 10) (b := v * 10 + tm_dv f n j) (by omega) (by omega) h4
        have lt : gv 4294967296 L u * (sc * 10) + (v * 10 + tm_dv f n j) < 2 ^ 1024 := by
          have g4 : (gv 4294967296 L u * (sc * 10) + (v * 10 + tm_dv f n j)) * 1 ≤ (gv 4294967296 L u * (sc * 10) + (v * 10 + tm_dv f n j)) * 10 ^ (y - (j + 1)) := Nat.mul_le_mul_left _ (Nat.pow_pos (by decide))
          generalize (2 : Nat) ^ 1024 = P1 at *
          omega
        have mv := tt_ma_val h4 lt
        have := ih (j + 1) (tt_ma (L, u) (sc * 10) (v * 10 + tm_dv f n j)).1 (tt_ma (L, u) (sc * 10) (v * 10 + tm_dv f n j)).2 1 0 (by omega) (by omega) (fun k a b => h3 k (by omega) b) hs.2 hs.1 (Or.inl rfl) (by omega) (Or.inr ⟨rfl, rfl⟩)
        rw [mv, Nat.mul_one, Nat.add_zero] at this
        exact this h9
      · rw [if_neg q]
        exact ih (j + 1) L u (sc * 10) (v * 10 + tm_dv f n j) (by omega) (by omega) (fun k a b => h3 k (by omega) b) h4 h5 (by omega) (by omega) (Or.inl (by omega)) h9
    · have : y - j = 0 := by omega
      rw [tt_tk, dif_neg (by omega), this]
      rcases h8 with w | ⟨w1, w2⟩
      · omega
      · rw [w1, w2]
        simp [tv]
/-- a number token: class and reference have one value -/
theorem tt_num_all {f : Nat → Int32} {n x : Nat} (dg L : Nat → Nat) (h : tt_tok f n x = 0) (hb : tt_big f n x (tt_to f n x) = false) :
    tt_btF (tt_tk f n (tt_to f n x) (tt_fd f n x (tt_to f n x)) (L, 0) 1 0).1 (32 * (tt_tk f n (tt_to f n x) (tt_fd f n x (tt_to f n x)) (L, 0) 1 0).2) = tm_bits (tm_nl f n (tt_to f n x) (tm_st0 f n x) (dg, 0)).2.1 (tm_nl f n (tt_to f n x) (tm_st0 f n x) (dg, 0)).2.2 ∧
    (∀ k, k < tm_bits (tm_nl f n (tt_to f n x) (tm_st0 f n x) (dg, 0)).2.1 (tm_nl f n (tt_to f n x) (tm_st0 f n x) (dg, 0)).2.2 → k < 32 * (tt_tk f n (tt_to f n x) (tt_fd f n x (tt_to f n x)) (L, 0) 1 0).2 ∧ tt_bitN (tt_tk f n (tt_to f n x) (tt_fd f n x (tt_to f n x)) (L, 0) 1 0).1 k = (tm_nl f n (tt_to f n x) (tm_st0 f n x) (dg, 0)).2.1 (k / 16) / 2 ^ (k % 16) % 2) ∧
    (tt_fd f n x (tt_to f n x) < tt_to f n x ↔ 0 < (tm_nl f n (tt_to f n x) (tm_st0 f n x) (dg, 0)).2.2) := by
  obtain ⟨h1, h2, h3⟩ := tt_numdig h
  have hy : tm_st0 f n x ≤ tt_to f n x := by
    unfold tm_st0
    split <;> omega
  have h9 : ∀ z, tm_st0 f n x ≤ z → z < tt_to f n x → tm_dv f n z ≤ 9 := fun z a b => (tt_digN (h3 z a b)).2
  have hV : tv f n (tm_st0 f n x) (tt_to f n x - tm_st0 f n x) < 2 ^ 1024 := by
    rw [tt_big_val hy h3] at hb
    exact Nat.not_le.mp (of_decide_eq_false hb)
  have nl := tm_nl_val (f := f) (n := n) (y := tt_to f n x) (tt_to f n x - tm_st0 f n x) (tm_st0 f n x) (dg, 0) (Nat.le_refl _) hy ⟨fun k hk => absurd hk (Nat.not_lt_zero _), fun hk => absurd hk (Nat.lt_irrefl _)⟩ h9
  have e0 : tm_val dg 0 * 10 ^ (tt_to f n x - tm_st0 f n x) + tv f n (tm_st0 f n x) (tt_to f n x - tm_st0 f n x) = tv f n (tm_st0 f n x) (tt_to f n x - tm_st0 f n x) := by
    show 0 * _ + _ = _
    rw [Nat.zero_mul, Nat.zero_add]
  dsimp only at nl
  rw [e0] at nl
  obtain ⟨-, n2, n3⟩ := nl.resolve_right (fun w => absurd hV (Nat.not_lt.mpr w.2))
  obtain ⟨f1, f2, f3, f4⟩ := tt_fd_val hy h3
  have kN := tt_tkN (L := L) h3
  have tkv := tt_tk_val (f := f) (n := n) (y := tt_to f n x) _ (tt_fd f n x (tt_to f n x)) L 0 1 0 (Nat.le_refl _) f2 (fun k a b => h9 k (by omega) b) (by omega) (fun k hk => absurd hk (Nat.not_lt_zero _)) (Or.inl rfl) (by omega) (Or.inr ⟨rfl, rfl⟩)
  have e1 : (gv 4294967296 L 0 * 1 + 0) * 10 ^ (tt_to f n x - tt_fd f n x (tt_to f n x)) + tv f n (tt_fd f n x (tt_to f n x)) (tt_to f n x - tt_fd f n x (tt_to f n x)) = tv f n (tt_fd f n x (tt_to f n x)) (tt_to f n x - tt_fd f n x (tt_to f n x)) := by
    show (0 * 1 + 0) * _ + _ = _
    rw [Nat.zero_mul, Nat.zero_add]
  rw [e1, ← f3] at tkv
  have tkv := tkv hV
  generalize hs : (tm_nl f n (tt_to f n x) (tm_st0 f n x) (dg, 0)).2 = s at *
  generalize ht : tt_tk f n (tt_to f n x) (tt_fd f n x (tt_to f n x)) (L, 0) 1 0 = T at *
  have b1 : ∀ e, tm_val s.1 s.2 < 2 ^ e ↔ tm_bits s.1 s.2 ≤ e := tm_bits_len n2
  have b2 : ∀ e, gv 4294967296 T.1 T.2 < 2 ^ e ↔ tt_btF T.1 (32 * T.2) ≤ e := tt_btF_lenN kN.2
  have len : tt_btF T.1 (32 * T.2) = tm_bits s.1 s.2 := tt_len_eq (V := tm_val s.1 s.2) (fun e => by rw [n3, ← tkv]; exact b2 e) b1
  refine ⟨len, fun k hk => ?_, ?_⟩
  · have k1 : k < 32 * T.2 := Nat.lt_of_lt_of_le (by rw [len]; exact hk) (tt_btF_le T.1 (32 * T.2))
    have k2 : k < 16 * s.2 := Nat.lt_of_lt_of_le hk (tm_bits16 n2.1)
    refine ⟨k1, ?_⟩
    have g1 := gv_bit (w := 32) (d := T.2) (D := T.1) (i := k) (by decide) kN.2 k1
    have g2 := gv_bit (w := 16) (d := s.2) (D := s.1) (i := k) (by decide) n2.1 k2
    have ev : gv (2 ^ 32) T.1 T.2 = gv (2 ^ 16) s.1 s.2 := by
      show gv 4294967296 T.1 T.2 = gv 65536 s.1 s.2
      rw [tkv, ← gv_tm, n3]
    rw [ev, g2] at g1
    exact g1.symm
  · have pos : 0 < s.2 ↔ 0 < tv f n (tm_st0 f n x) (tt_to f n x - tm_st0 f n x) := by
      rw [← n3]
      constructor
      · intro z
        exact Nat.lt_of_lt_of_le (Nat.pow_pos (by decide)) (tm_val_ge z (n2.2 z))
      · intro z
        rcases Nat.eq_zero_or_pos s.2 with w | w
        · rw [w] at z
          exact absurd z (Nat.lt_irrefl _)
        · exact w
    rw [pos, f3]
    constructor
    · intro z
      have c := f4 z
      have e2 : tv f n (tt_fd f n x (tt_to f n x)) (tt_to f n x - tt_fd f n x (tt_to f n x)) = tm_dv f n (tt_fd f n x (tt_to f n x)) * 10 ^ (tt_to f n x - tt_fd f n x (tt_to f n x) - 1) + tv f n (tt_fd f n x (tt_to f n x) + 1) (tt_to f n x - tt_fd f n x (tt_to f n x) - 1) := by
        conv => lhs; rw [show tt_to f n x - tt_fd f n x (tt_to f n x) = 1 + (tt_to f n x - tt_fd f n x (tt_to f n x) - 1) by omega, tv_add]
        show (0 * 10 + tm_dv f n (tt_fd f n x (tt_to f n x) + 0)) * 10 ^ (tt_to f n x - tt_fd f n x (tt_to f n x) - 1) + _ = _
        rw [Nat.zero_mul, Nat.zero_add, Nat.add_zero]
      have g := Nat.mul_le_mul c (show 1 ≤ 10 ^ (tt_to f n x - tt_fd f n x (tt_to f n x) - 1) from Nat.pow_pos (by decide))
      rw [e2]
      omega
    · intro z
      rcases Nat.lt_or_ge (tt_fd f n x (tt_to f n x)) (tt_to f n x) with w | w
      · exact w
      · rw [show tt_to f n x - tt_fd f n x (tt_to f n x) = 0 by omega] at z
        exact absurd z (Nat.lt_irrefl _)
