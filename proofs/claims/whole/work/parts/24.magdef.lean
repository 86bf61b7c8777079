/-! Numbers in the class: limbs of 32 bits, the lowest first; nine decimal digits at a time. -/
def tt_mc (L : Nat → Nat) (a b : Nat) : Nat → Nat
  | 0 => b
  | k + 1 => (L k * a + tt_mc L a b k) / 4294967296
def tt_mi (L : Nat → Nat) (a b q : Nat) : Nat → Nat := fun k => if k < q then (L k * a + tt_mc L a b k) % 4294967296 else L k
def tt_ma (s : (Nat → Nat) × Nat) (a b : Nat) : (Nat → Nat) × Nat := if tt_mc s.1 a b s.2 = 0 then (tt_mi s.1 a b s.2, s.2) else if 32 ≤ s.2 then (tt_mi s.1 a b s.2, s.2) else (tm_put (tt_mi s.1 a b s.2) s.2 (tt_mc s.1 a b s.2), s.2 + 1)
theorem tt_mc_le {L : Nat → Nat} {a b u : Nat} (hL : ∀ k, k < u → L k < 4294967296) (ha : a ≤ 1000000000) (hb : b < 4294967296) : ∀ k, k ≤ u → tt_mc L a b k < 4294967296 := by
  intro k
  induction k with
  | zero => intro _; exact hb
  | succ k ih =>
    intro h
    have h1 := ih (by omega)
    have h2 := hL k (by omega)
    show (L k * a + tt_mc L a b k) / 4294967296 < 4294967296
    have h3 : L k * a ≤ 4294967295 * 1000000000 := Nat.mul_le_mul (by omega) ha
    omega
theorem tt_mi_at {L : Nat → Nat} {a b q : Nat} : tt_mi L a b q q = L q := by
  unfold tt_mi
  rw [if_neg (Nat.lt_irrefl q)]
theorem tt_mi_0 {L : Nat → Nat} {a b : Nat} : tt_mi L a b 0 = L := by
  funext k
  unfold tt_mi
  rw [if_neg (by omega)]
theorem tt_mi_s {L : Nat → Nat} {a b q : Nat} : tm_put (tt_mi L a b q) q ((L q * a + tt_mc L a b q) % 4294967296) = tt_mi L a b (q + 1) := by
  funext k
  unfold tm_put tt_mi
  by_cases h : k = q
  · subst h
    rw [if_pos rfl, if_pos (by omega)]
  · rw [if_neg h]
    by_cases h2 : k < q
    · rw [if_pos h2, if_pos (by omega)]
    · rw [if_neg h2, if_neg (by omega)]
theorem tt_mi_lt {L : Nat → Nat} {a b u : Nat} (k : Nat) (h : k < u) : tt_mi L a b u k < 4294967296 := by
  unfold tt_mi
  rw [if_pos h]
  exact Nat.mod_lt _ (by decide)
theorem tt_ma_ok {L : Nat → Nat} {a b u : Nat} (hL : ∀ k, k < u → L k < 4294967296) (ha : a ≤ 1000000000) (hb : b < 4294967296) (hu : u ≤ 32) : (∀ k, k < (tt_ma (L, u) a b).2 → (tt_ma (L, u) a b).1 k < 4294967296) ∧ (tt_ma (L, u) a b).2 ≤ 32 := by
  unfold tt_ma
  have hm := tt_mc_le hL ha hb u (Nat.le_refl _)
  split
  · exact ⟨fun k h => tt_mi_lt k h, hu⟩
  · split
    · exact ⟨fun k h => tt_mi_lt k h, hu⟩
    · rename_i h3
      refine ⟨fun k h => ?_, by dsimp only at h3 ⊢; omega⟩
      have h2 : k < u + 1 := h
      show tm_put (tt_mi L a b u) u (tt_mc L a b u) k < 4294967296
      unfold tm_put
      split
      · exact hm
      · exact tt_mi_lt k (by omega)
theorem tt_nIm (n : Nat) : nI n = nI (n % 4294967296) := by
  unfold nI
  apply Int32.toBitVec_inj.mp
  show BitVec.ofNat 32 n = BitVec.ofNat 32 (n % 4294967296)
  apply BitVec.eq_of_toNat_eq
  simp
theorem tt_low {a : Nat} (h : a < 4294967296) : (nI a).toInt64 &&& lN 4294967295 = lN a := by
  apply Int64.toBitVec_inj.mp
  show (nI a).toInt64.toBitVec &&& (lN 4294967295).toBitVec = (lN a).toBitVec
  have e1 : (nI a).toInt64.toBitVec = (BitVec.ofNat 32 a).signExtend 64 := rfl
  have e2 : (lN a).toBitVec = BitVec.ofNat 64 a := rfl
  have e3 : (lN 4294967295).toBitVec = BitVec.ofNat 64 4294967295 := rfl
  rw [e1, e2, e3]
  apply BitVec.eq_of_getLsbD_eq
  intro i hi
  have e4 : (BitVec.ofNat 64 4294967295).getLsbD i = decide (i < 32) := by
    rw [BitVec.getLsbD_ofNat, show (4294967295 : Nat) = 2 ^ 32 - 1 from rfl, Nat.testBit_two_pow_sub_one]
    simp [hi]
  rw [BitVec.getLsbD_and, BitVec.getLsbD_signExtend, e4, BitVec.getLsbD_ofNat, BitVec.getLsbD_ofNat]
  by_cases h32 : i < 32
  · simp [h32, hi]
  · simp [h32]
    intro _
    exact Nat.testBit_lt_two_pow (Nat.lt_of_lt_of_le h (show 4294967296 ≤ 2 ^ i from Nat.pow_le_pow_right (n := 2) (by decide) (show 32 ≤ i by omega)))
theorem tt_hi32 {n : Nat} (hn : n < 2 ^ 63) : ((lN n).toUInt64 >>> ((32 : Int32).toInt64.toUInt64 &&& Int64.toUInt64 63)).toInt64 = lN (n / 4294967296) := by
  have e : ((32 : Int32).toInt64.toUInt64 &&& Int64.toUInt64 63) = UInt64.ofNat 32 := by decide
  rw [e]
  apply Int64.toBitVec_inj.mp
  apply BitVec.eq_of_toNat_eq
  show ((lN n).toUInt64 >>> UInt64.ofNat 32).toNat = (lN (n / 4294967296)).toBitVec.toNat
  have e1 : (lN n).toUInt64.toNat = n := by
    show (BitVec.ofNat 64 n).toNat = n
    rw [BitVec.toNat_ofNat, Nat.mod_eq_of_lt (by omega)]
  have e2 : (lN (n / 4294967296)).toBitVec.toNat = n / 4294967296 := by
    show (BitVec.ofNat 64 (n / 4294967296)).toNat = n / 4294967296
    rw [BitVec.toNat_ofNat, Nat.mod_eq_of_lt (by omega)]
  rw [UInt64.toNat_shiftRight, e1, e2]
  show n >>> (32 % 64) = n / 4294967296
  rw [Nat.shiftRight_eq_div_pow]
theorem tt_dvc {f : Nat → Int32} {n j : Nat} (h : tt_dig (tt_ch f n j) = true) : tt_ch f n j - 48 = nI (tm_dv f n j) ∧ tm_dv f n j ≤ 9 := by
  rcases tt_ch_cases f n j with ⟨-, e⟩ | ⟨hj, k, hk, e⟩
  · rw [e] at h
    exact absurd h (by decide)
  · rw [e] at h
    have hr := tt_digk k hk h
    unfold tm_dv
    rw [e, nI_clamp (by omega)]
    exact ⟨pk_sub (a := k) (b := 48) hr.1, by omega⟩
/-- the digits from j on, with scale and value of those not yet put in -/
def tt_tk (f : Nat → Int32) (n y j : Nat) (s : (Nat → Nat) × Nat) (sc v : Nat) : (Nat → Nat) × Nat :=
  if h : j < y then (if sc * 10 = 1000000000 ∨ j = y - 1 then tt_tk f n y (j + 1) (tt_ma s (sc * 10) (v * 10 + tm_dv f n j)) 1 0 else tt_tk f n y (j + 1) s (sc * 10) (v * 10 + tm_dv f n j)) else s
termination_by y - j
def tt_bitN (L : Nat → Nat) (k : Nat) : Nat := L (k / 32) / 2 ^ (k % 32) % 2
def tt_btF (L : Nat → Nat) : Nat → Nat
  | 0 => 0
  | k + 1 => if tt_bitN L k = 0 then tt_btF L k else k + 1
def tt_bitA (L : Nat → Nat) (u : Nat) (i : Int32) : Int32 := if i < 0 then -1 else if ¬ i < nI (32 * u) then -1 else nI (tt_bitN L i.toNatClampNeg)
theorem tt_divr {i : Int32} (h : ¬ i < 0) : i / 32 = nI (i.toNatClampNeg / 32) := by
  obtain ⟨j, hj, rfl⟩ := nI_of h
  rw [nI_clamp hj]
  exact pk_div (a := j) (d := 32) hj (by decide) (by decide)
theorem tt_remr {i : Int32} (h : ¬ i < 0) : i - i / 32 * 32 = nI (i.toNatClampNeg % 32) := by
  obtain ⟨j, hj, rfl⟩ := nI_of h
  rw [nI_clamp hj]
  exact pk_rem (a := j) (d := 32) hj (by decide) (by decide)
theorem tt_su : ∀ n, n < 32 → (((nI n).toUInt32 &&& Int32.toUInt32 31).toBitVec % 32).toNat = n := by decide +kernel
theorem tt_ush {a k : Nat} (ha : a < 4294967296) (hk : k < 32) : ((nI a).toUInt32 >>> ((nI k).toUInt32 &&& Int32.toUInt32 31)).toInt32 = nI (a / 2 ^ k) := pk_ushrN ha (nI k) k (tt_su k hk)
theorem tt_and1 {a : Nat} (ha : a < 4294967296) : nI a &&& 1 = nI (a % 2) := pk_andN ha (m := 1) 1 (by decide)
theorem tt_btF_le (L : Nat → Nat) : ∀ k, tt_btF L k ≤ k := by
  intro k
  induction k with
  | zero => exact Nat.le_refl _
  | succ k ih =>
    unfold tt_btF
    split <;> omega
theorem tt_btF_0 {L : Nat → Nat} {z : Nat} (h : 0 < z) (hb : tt_bitN L (z - 1) = 0) : tt_btF L z = tt_btF L (z - 1) := by
  obtain ⟨k, rfl⟩ : ∃ k, z = k + 1 := ⟨z - 1, by omega⟩
  simp only [Nat.add_sub_cancel] at hb ⊢
  conv => lhs; unfold tt_btF
  rw [if_pos hb]
theorem tt_btF_1 {L : Nat → Nat} {z : Nat} (h : 0 < z) (hb : ¬ tt_bitN L (z - 1) = 0) : tt_btF L z = z := by
  obtain ⟨k, rfl⟩ : ∃ k, z = k + 1 := ⟨z - 1, by omega⟩
  simp only [Nat.add_sub_cancel] at hb
  unfold tt_btF
  rw [if_neg hb]
theorem tt_bitA_n (L : Nat → Nat) {u k : Nat} (h : k < 32 * u) (hu : u ≤ 32) : tt_bitA L u (nI k) = nI (tt_bitN L k) := by
  unfold tt_bitA
  rw [if_neg (nI_pos (by omega)), if_neg (fun z => z (nI_lt h (by omega))), nI_clamp (by omega)]
theorem tt_bitN_lt (L : Nat → Nat) (k : Nat) : tt_bitN L k < 2 := Nat.mod_lt _ (by decide)
theorem tm_fd_st (f : Nat → Int32) (n x y : Nat) : tm_st0 f n x ≤ tt_fd f n x y := by
  unfold tt_fd tm_st0
  exact tt_sw_lo
