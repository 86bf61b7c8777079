/-! Characters as they stand in a row and as they are looked at. -/
theorem tt_i8 (b : Int8) : ∃ k, k < 256 ∧ b = Int8.ofNat k := by
  refine ⟨b.toBitVec.toNat, b.toBitVec.isLt, ?_⟩
  apply Int8.toBitVec_inj.mp
  show b.toBitVec = BitVec.ofNat 8 b.toBitVec.toNat
  rw [BitVec.ofNat_toNat, BitVec.setWidth_eq]
theorem tt_raw_by {P : Int32 → Int32 → Prop} {f : Nat → Int32} {n i : Nat} (hf : ∀ k, (f k).toInt8.toInt32 = f k) (hi : i < n) (h : ∀ k, k < 256 → P (Int8.ofNat k).toInt32 ((Int8.ofNat k).toInt32 &&& 255)) : P (f i) (tt_ch f n i) := by
  obtain ⟨k, hk, e⟩ := tt_i8 (f i).toInt8
  have e2 : f i = (Int8.ofNat k).toInt32 := by rw [← e, hf i]
  rw [tt_ch, if_pos hi, e2]
  exact h k hk
theorem tt_hex_raw {f : Nat → Int32} {n i : Nat} (hf : ∀ k, (f k).toInt8.toInt32 = f k) (hi : i < n) : tt_hex (f i) = tt_hex (tt_ch f n i) :=
  tt_raw_by (P := fun a b => tt_hex a = tt_hex b) hf hi (by decide +kernel)
theorem tt_wd_raw {f : Nat → Int32} {n i : Nat} (hf : ∀ k, (f k).toInt8.toInt32 = f k) (hi : i < n) : tt_wd (tt_ch f n i) = true → f i = tt_ch f n i :=
  tt_raw_by (P := fun a b => tt_wd b = true → a = b) hf hi (by decide +kernel)
theorem tt_sts_raw {f : Nat → Int32} {n i : Nat} (hf : ∀ k, (f k).toInt8.toInt32 = f k) (hi : i < n) : tt_sts (tt_ch f n i) = true → f i = tt_ch f n i ∧ ¬ tt_ch f n i = 92 :=
  tt_raw_by (P := fun a b => tt_sts b = true → a = b ∧ ¬ b = 92) hf hi (by decide +kernel)
theorem tt_esc_raw {f : Nat → Int32} {n i : Nat} (hf : ∀ k, (f k).toInt8.toInt32 = f k) (hi : i < n) : ¬ tt_esc (tt_ch f n i) = -1 → tt_esc (tt_ch f n i) = if f i = 110 then 10 else f i :=
  tt_raw_by (P := fun a b => ¬ tt_esc b = -1 → tt_esc b = if a = 110 then 10 else a) hf hi (by decide +kernel)
theorem tt_dig_raw {f : Nat → Int32} {n i : Nat} (hf : ∀ k, (f k).toInt8.toInt32 = f k) (hi : i < n) : tt_dig (tt_ch f n i) = true → f i = tt_ch f n i :=
  tt_raw_by (P := fun a b => tt_dig b = true → a = b) hf hi (by decide +kernel)
/-! What single tokens are. -/
theorem tt_tok_letv {c : Int32} (h : tt_sgn c = true) : c = 123 ∨ c = 125 ∨ c = 40 ∨ c = 41 ∨ c = 59 := by
  simp only [tt_sgn, Bool.or_eq_true, decide_eq_true_eq] at h
  rcases h with (((h | h) | h) | h) | h <;> simp [h]
theorem tt_tok1 {f : Nat → Int32} {n i : Nat} (h : tt_tok f n i = 1) : tt_str f n (i + 1) ≠ 0 ∧ tt_to f n i = tt_str f n (i + 1) := by
  unfold tt_tok at h
  unfold tt_to
  by_cases c1 : tt_ch f n i = -1
  · rw [if_pos c1] at h; exact absurd h (by decide)
  rw [if_neg c1] at h ⊢
  by_cases c2 : tt_let (tt_ch f n i) = true
  · rw [if_pos c2] at h; exact absurd h (by decide)
  rw [if_neg c2] at h ⊢
  by_cases c3 : tt_ch f n i = 48 ∧ tt_ch f n (i + 1) = 120
  · rw [if_pos c3] at h
    split at h <;> exact absurd h (by decide)
  rw [if_neg c3] at h ⊢
  by_cases c4 : tt_ch f n i = 45 ∨ tt_dig (tt_ch f n i) = true
  · rw [if_pos c4] at h
    split at h <;> exact absurd h (by decide)
  rw [if_neg c4] at h ⊢
  by_cases c5 : tt_ch f n i = 34
  · rw [if_pos c5] at h ⊢
    by_cases c6 : tt_str f n (i + 1) = 0
    · rw [if_pos c6] at h; exact absurd h (by decide)
    · rw [if_neg c6]
      exact ⟨c6, rfl⟩
  rw [if_neg c5] at h
  split at h
  · split at h <;> exact absurd h (by decide)
  split at h
  · rename_i g
    rcases tt_tok_letv g with g | g | g | g | g <;> rw [g] at h <;> exact absurd h (by decide)
  · exact absurd h (by decide)
theorem tt_tok2 {f : Nat → Int32} {n i : Nat} (h : tt_tok f n i = 2) : i + 2 ≤ tt_to f n i := by
  unfold tt_tok at h
  unfold tt_to
  by_cases c1 : tt_ch f n i = -1
  · rw [if_pos c1] at h; exact absurd h (by decide)
  rw [if_neg c1] at h ⊢
  by_cases c2 : tt_let (tt_ch f n i) = true
  · rw [if_pos c2] at h; exact absurd h (by decide)
  rw [if_neg c2] at h ⊢
  by_cases c3 : tt_ch f n i = 48 ∧ tt_ch f n (i + 1) = 120
  · rw [if_pos c3]
    exact tt_sw_lo
  rw [if_neg c3] at h ⊢
  by_cases c4 : tt_ch f n i = 45 ∨ tt_dig (tt_ch f n i) = true
  · rw [if_pos c4] at h
    split at h <;> exact absurd h (by decide)
  rw [if_neg c4] at h ⊢
  split at h
  · split at h <;> exact absurd h (by decide)
  split at h
  · split at h <;> exact absurd h (by decide)
  split at h
  · rename_i g
    rcases tt_tok_letv g with g | g | g | g | g <;> rw [g] at h <;> exact absurd h (by decide)
  · exact absurd h (by decide)
theorem tt_tok5 {f : Nat → Int32} {n i : Nat} (h : tt_tok f n i = 5) : ∀ z, i ≤ z → z < tt_to f n i → z < n ∧ tt_wd (tt_ch f n z) = true := by
  unfold tt_tok at h
  unfold tt_to
  by_cases c1 : tt_ch f n i = -1
  · rw [if_pos c1] at h; exact absurd h (by decide)
  rw [if_neg c1] at h ⊢
  by_cases c2 : tt_let (tt_ch f n i) = true
  · rw [if_pos c2]
    intro z a b
    exact tt_sw_mem (P := fun j => tt_wd (tt_ch f n j)) _ i z (Nat.le_refl _) a b
  rw [if_neg c2] at h ⊢
  split at h
  · split at h <;> exact absurd h (by decide)
  split at h
  · split at h <;> exact absurd h (by decide)
  split at h
  · split at h <;> exact absurd h (by decide)
  split at h
  · split at h <;> exact absurd h (by decide)
  split at h
  · rename_i g
    rcases tt_tok_letv g with g | g | g | g | g <;> rw [g] at h <;> exact absurd h (by decide)
  · exact absurd h (by decide)
theorem tt_tok6 {f : Nat → Int32} {n i : Nat} (h : tt_tok f n i = 6) : ∀ z, i + 1 ≤ z → z < tt_to f n i → z < n ∧ tt_wd (tt_ch f n z) = true := by
  unfold tt_tok at h
  unfold tt_to
  by_cases c1 : tt_ch f n i = -1
  · rw [if_pos c1] at h; exact absurd h (by decide)
  rw [if_neg c1] at h ⊢
  by_cases c2 : tt_let (tt_ch f n i) = true
  · rw [if_pos c2] at h; exact absurd h (by decide)
  rw [if_neg c2] at h ⊢
  by_cases c3 : tt_ch f n i = 48 ∧ tt_ch f n (i + 1) = 120
  · rw [if_pos c3] at h
    split at h <;> exact absurd h (by decide)
  rw [if_neg c3] at h ⊢
  by_cases c4 : tt_ch f n i = 45 ∨ tt_dig (tt_ch f n i) = true
  · rw [if_pos c4] at h
    split at h <;> exact absurd h (by decide)
  rw [if_neg c4] at h ⊢
  by_cases c5 : tt_ch f n i = 34
  · rw [if_pos c5] at h
    split at h <;> exact absurd h (by decide)
  rw [if_neg c5] at h ⊢
  by_cases c7 : tt_ch f n i = 37
  · rw [if_pos c7]
    intro z a b
    exact tt_sw_mem (P := fun j => tt_wd (tt_ch f n j)) _ (i + 1) z (Nat.le_refl _) a (by omega)
  rw [if_neg c7] at h
  split at h
  · rename_i g
    rcases tt_tok_letv g with g | g | g | g | g <;> rw [g] at h <;> exact absurd h (by decide)
  · exact absurd h (by decide)
/-! Strings. -/
theorem tt_sp_val {f : Nat → Int32} {n E : Nat} (hf : ∀ k, (f k).toInt8.toInt32 = f k) (hE : E ≠ 0) : ∀ (w k q i : Nat), n - k ≤ w → tt_str f n k = E → q ≤ i → i < 2 ^ 31 → tt_sp f n (E - 1) (nI i) q k = if i - q < tt_sl f n (E - 1) k then tm_sv f n (tm_cA f n (E - 1) (i - q) k) else -1 := by
  intro w
  induction w with
  | zero =>
    intro k q i h1 h2 h3 h4
    rw [tt_str, dif_neg (by omega)] at h2
    exact absurd h2.symm hE
  | succ w ih =>
    intro k q i h1 h2 h3 h4
    have rg := tt_str_rng (f := f) (n := n) _ k (Nat.le_refl _)
    rw [tt_str] at h2
    have hk : k < n := by
      rcases Nat.lt_or_ge k n with z | z
      · exact z
      · rw [dif_neg (by omega)] at h2
        exact absurd h2.symm hE
    rw [dif_pos hk] at h2
    by_cases c1 : tt_ch f n k = 34
    · rw [if_pos c1] at h2
      rw [← h2, Nat.add_sub_cancel, tt_sp, dif_neg (Nat.lt_irrefl _), tt_sl_out (Nat.lt_irrefl _), if_neg (Nat.not_lt_zero _)]
    · rw [if_neg c1] at h2
      have step : ∀ (nx : Nat), tt_nx f n k = nx → k < nx → tt_str f n nx = E → tt_cv f n k = tm_sv f n k → tt_sp f n (E - 1) (nI i) q k = if i - q < tt_sl f n (E - 1) k then tm_sv f n (tm_cA f n (E - 1) (i - q) k) else -1 := by
        intro nx e1 e2 e3 e4
        have r2 := tt_str_rng (f := f) (n := n) _ nx (Nat.le_refl _)
        rw [e3] at r2
        have lt : k < E - 1 := by omega
        rw [tt_sp, dif_pos lt, tt_sl_in lt, e1]
        by_cases z : q = i
        · subst z
          rw [if_pos rfl, Nat.sub_self, if_pos (by omega), tm_cA, e4]
        · rw [if_neg (fun y => z ((nI_eq (by omega) h4).mp y)), ih nx (q + 1) i (by omega) e3 (by omega) h4]
          rw [show i - q = (i - (q + 1)) + 1 by omega, tm_cA, if_pos lt, e1]
          by_cases y : i - (q + 1) < tt_sl f n (E - 1) nx
          · rw [if_pos y, if_pos (by omega)]
          · rw [if_neg y, if_neg (by omega)]
      by_cases c2 : tt_sts (tt_ch f n k) = true
      · rw [if_pos c2] at h2
        have r := tt_sts_raw hf hk c2
        exact step (k + 1) (by unfold tt_nx; rw [if_neg r.2]) (by omega) h2 (by unfold tt_cv tm_sv; rw [if_neg r.2, if_neg r.2, r.1])
      · rw [if_neg c2] at h2
        by_cases c3 : tt_ch f n k = 92 ∧ ¬ tt_esc (tt_ch f n (k + 1)) = -1
        · rw [if_pos c3] at h2
          have hk2 : k + 1 < n := tt_ch_in (fun z => c3.2 (by rw [z]; decide))
          exact step (k + 2) (by unfold tt_nx; rw [if_pos c3.1]) (by omega) h2 (by unfold tt_cv tm_sv; rw [if_pos c3.1, if_pos c3.1, tt_esc_raw hf hk2 c3.2])
        · rw [if_neg c3] at h2
          exact absurd h2.symm hE
theorem tt_sp_neg {f : Nat → Int32} {n e : Nat} {i : Int32} (hi : i < 0) : ∀ (w k q : Nat), e - k ≤ w → q + (e - k) < 2 ^ 31 → tt_sp f n e i q k = -1 := by
  intro w
  induction w with
  | zero =>
    intro k q h1 h2
    rw [tt_sp, dif_neg (by omega)]
  | succ w ih =>
    intro k q h1 h2
    rw [tt_sp]
    by_cases z : k < e
    · have b : k + 1 ≤ tt_nx f n k := by unfold tt_nx; split <;> omega
      rw [dif_pos z, if_neg (fun y => nI_pos (show q < 2 ^ 31 by omega) (by rw [y]; exact hi))]
      exact ih _ _ (by omega) (by omega)
    · rw [dif_neg z]
/-- a string's characters -/
theorem tt_sp_all {f : Nat → Int32} {n x : Nat} {i : Int32} (hf : ∀ k, (f k).toInt8.toInt32 = f k) (hn : n ≤ 16384) (h : tt_tok f n x = 1) : x + 2 ≤ tt_to f n x ∧ tt_to f n x ≤ n ∧ tt_sp f n (tt_to f n x - 1) i 0 (x + 1) = if i < 0 then -1 else if ¬ i < nI (tt_sl f n (tt_to f n x - 1) (x + 1)) then -1 else tm_sv f n (tm_cA f n (tt_to f n x - 1) i.toNatClampNeg (x + 1)) := by
  obtain ⟨h1, h2⟩ := tt_tok1 h
  have rg := tt_str_rng (f := f) (n := n) _ (x + 1) (Nat.le_refl _)
  rw [h2]
  refine ⟨by omega, by omega, ?_⟩
  by_cases q : i < 0
  · rw [if_pos q, tt_sp_neg q _ _ _ (Nat.le_refl _) (by omega)]
  · rw [if_neg q]
    obtain ⟨k, hk, rfl⟩ := nI_of q
    have sl := tt_sl_le f n (tt_str f n (x + 1) - 1) (x + 1)
    rw [tt_sp_val hf h1 _ _ _ _ (Nat.le_refl _) rfl (Nat.zero_le _) hk, nI_clamp hk, Nat.sub_zero]
    rcases Nat.lt_or_ge k (tt_sl f n (tt_str f n (x + 1) - 1) (x + 1)) with z | z
    · rw [if_pos z, if_neg (fun y => y (nI_lt z (by omega)))]
    · rw [if_neg (by omega), if_pos (fun y => by have := (nI_ltI hk (by omega)).mp y; omega)]
/-! Bytes, words, marks. -/
theorem tt_pb_all {f : Nat → Int32} {n x y : Nat} {i : Int32} (hf : ∀ k, (f k).toInt8.toInt32 = f k) (hn : n ≤ 16384) (hxy : x + 2 ≤ y) (hy : y ≤ n) : tt_pb f n x y i = if i < 0 then -1 else if ¬ i < nI ((y - x - 2) / 2) then -1 else 16 * tt_hex (f (x + 2 + 2 * i.toNatClampNeg)) + tt_hex (f (x + 2 + 2 * i.toNatClampNeg + 1)) := by
  unfold tt_pb
  have e : (y - x) / 2 - 1 = (y - x - 2) / 2 := by omega
  rw [e]
  by_cases q : i < 0
  · rw [if_pos q, if_pos q]
  · rw [if_neg q, if_neg q]
    by_cases z : i < nI ((y - x - 2) / 2)
    · have l := tt_ltr2 q z (by omega)
      rw [if_neg (fun w => w z), if_neg (fun w => w z), tt_hex_raw (n := n) hf (by omega), tt_hex_raw (n := n) hf (by omega), Int32.mul_comm]
    · rw [if_pos z, if_pos z]
theorem tt_ins_all {f : Nat → Int32} {n x y : Nat} {i : Int32} (hf : ∀ k, (f k).toInt8.toInt32 = f k) (hn : n ≤ 16384) (hy : y ≤ n) (hw : ∀ z, x ≤ z → z < y → tt_wd (tt_ch f n z) = true) : tt_ins f n x y i = if i < 0 then -1 else if nI (y - x) ≤ i then -1 else f (x + i.toNatClampNeg) := by
  unfold tt_ins
  by_cases q : i < 0
  · rw [if_pos q, if_pos q]
  · rw [if_neg q, if_neg q]
    by_cases z : nI (y - x) ≤ i
    · rw [if_pos z, if_pos z]
    · have l := tt_ltraw q z (by omega)
      rw [if_neg z, if_neg z, tt_wd_raw hf (by omega) (hw _ (by omega) (by omega))]
theorem tt_nlt_le {k : Nat} {i : Int32} (h0 : ¬ i < 0) (hk : k < 2 ^ 31) : ¬ i < nI k ↔ nI k ≤ i := by
  obtain ⟨j, hj, rfl⟩ := nI_of h0
  rw [nI_ltI hj hk, nI_leI hk hj]
  omega
theorem tt_ins_all2 {f : Nat → Int32} {n x y : Nat} {i : Int32} (hf : ∀ k, (f k).toInt8.toInt32 = f k) (hn : n ≤ 16384) (hy : y ≤ n) (hw : ∀ z, x ≤ z → z < y → tt_wd (tt_ch f n z) = true) : tt_ins f n x y i = if i < 0 then -1 else if ¬ i < nI (y - x) then -1 else f (x + i.toNatClampNeg) := by
  rw [tt_ins_all hf hn hy hw]
  by_cases q : i < 0
  · rw [if_pos q, if_pos q]
  · rw [if_neg q, if_neg q]
    have := tt_nlt_le (k := y - x) q (by omega)
    by_cases z : nI (y - x) ≤ i
    · rw [if_pos z, if_pos (this.mpr z)]
    · rw [if_neg z, if_neg (fun w => z (this.mp w))]
/-! Bytes that come in. -/
theorem tt_by_bits (v : Int32) (s : Nat) (hs : s ≤ 24) (k : Int32) (e1 : ((k.toUInt32 &&& Int32.toUInt32 31).toBitVec % 32).toNat = s) (e2 : ((k &&& 31).toBitVec.smod 32).toNat = s) : tt_by v k = tm_by v k := by
  unfold tt_by tm_by
  congr 1
  apply Int8.toBitVec_inj.mp
  rw [Int32.toBitVec_toInt8, Int32.toBitVec_toInt8]
  apply BitVec.eq_of_getLsbD_eq
  intro i hi
  rw [BitVec.getLsbD_signExtend, BitVec.getLsbD_signExtend]
  have a1 : (v.toUInt32 >>> (k.toUInt32 &&& Int32.toUInt32 31)).toInt32.toBitVec = v.toBitVec >>> s := by
    show v.toBitVec >>> ((k.toUInt32 &&& Int32.toUInt32 31).toBitVec % 32) = _
    rw [BitVec.ushiftRight_eq', e1]
  have a2 : (v >>> (k &&& 31)).toBitVec = v.toBitVec.sshiftRight s := by
    show v.toBitVec.sshiftRight ((k &&& 31).toBitVec.smod 32).toNat = _
    rw [e2]
  rw [a1, a2, BitVec.getLsbD_ushiftRight, BitVec.getLsbD_sshiftRight]
  have : s + i < 32 := by omega
  have : i < 32 := by omega
  simp [*]
theorem tt_f4_eq (f : Nat → Int32) (n : Nat) (v : Int32) : tt_f4 f n v = tm_f4 f n v := by
  unfold tt_f4 tm_f4
  rw [tt_by_bits v 24 (by decide) 24 (by decide +kernel) (by decide +kernel), tt_by_bits v 16 (by decide) 16 (by decide +kernel) (by decide +kernel), tt_by_bits v 8 (by decide) 8 (by decide +kernel) (by decide +kernel), tt_by_bits v 0 (by decide) 0 (by decide +kernel) (by decide +kernel)]
theorem tt_f20_eq (f : Nat → Int32) (n : Nat) (a b c d e : Int32) : tt_f20 f n a b c d e = tm_f20 f n a b c d e := by
  unfold tt_f20 tm_f20
  simp only [tt_f4_eq]
