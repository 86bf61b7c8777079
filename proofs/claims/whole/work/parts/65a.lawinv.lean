/-! What the law's loop keeps: of the terms (lw_T), of all (lw_I). -/
def lw_T (f : Nat → Int32) (tn : Nat) (r : Nat → Nat → Int32) (n : Nat) (q : Nat → Nat → Int32) : Prop := (∀ k, (f k).toInt8.toInt32 = f k) ∧ tn ≤ 16384 ∧ n ≤ 4096 ∧ tt_Tr (r 1) n ∧ tt_Q q r n ∧ ∀ t, t < n → r 2 t = nI (tm_ct (r 1) n t (t + 1)) ∧ r 3 t = nI (tm_sz (r 1) n t t) ∧ tt_tm f tn (r 0 t) (r 4 t) (r 5 t) (r 6 t) (r 7 t)
def lw_I (i : Nat) (g : Nat → Int32) (cn : Nat) (f : Nat → Int32) (tn : Nat) (r : Nat → Nat → Int32) (n : Nat) (q : Nat → Nat → Int32) : Prop := 3 * cn ≤ 10 * i ∧ (∀ k, (g k).toInt8.toInt32 = g k) ∧ lw_T f tn r n q
section
variable {g f : Nat → Int32} {i cn tn n k : Nat} {r q : Nat → Nat → Int32} {x : Int32}
theorem lw_I.mono (h : lw_I i g cn f tn r n q) : lw_I (i + 6) g cn f tn r n q := ⟨by have := h.1; omega, h.2⟩
theorem tm_isT_or (n : Nat) (hn : n ≤ 4096) (x : Int32) : tm_isT n x = false ∨ ∃ k, k < n ∧ x = nI k := by
  by_cases h0 : x < 0
  · exact Or.inl (by simp [tm_isT, h0])
  · obtain ⟨k, hk, rfl⟩ := nI_of h0
    rcases Nat.lt_or_ge k n with w | w
    · exact Or.inr ⟨k, w, rfl⟩
    · have : ¬ nI k < nI n := fun z => by have := (nI_ltI hk (by omega)).mp z; omega
      exact Or.inl (by simp [tm_isT, this])
theorem tm_isT_in (hn : n ≤ 4096) (h : tm_isT n x = false) : ∀ g, tt_in g n x = -1 := by
  intro g
  unfold tt_in
  by_cases h0 : x < 0
  · rw [if_pos h0]
  · rw [if_neg h0]
    obtain ⟨k, hk, rfl⟩ := nI_of h0
    rcases Nat.lt_or_ge k n with w | w
    · rw [tm_isT_n w hn] at h
      exact Bool.noConfusion h
    · rw [if_pos (nI_le w (by omega))]
theorem tt_in_isT {g h : Nat → Int32} (hn : n ≤ 4096) (e : ∀ t, t < n → h t = g t) (x : Int32) : tt_in g n x = if tm_isT n x = true then h x.toNatClampNeg else -1 := by
  rcases tm_isT_or n hn x with w | ⟨k, hk, rfl⟩
  · rw [tm_isT_in hn w, w, if_neg (by decide)]
  · rw [tt_in_at hk hn, tm_isT_n hk hn, if_pos rfl, nI_clamp (by omega), e k hk]
theorem lt_Q (T : lw_T f tn r n q) (hk : k < n) : q 0 k = r 0 k ∧ q 1 k = r 1 k ∧ q 2 k = r 4 k ∧ q 3 k = r 5 k ∧ ((q 4 k = -1 ∧ q 5 k = -1 ∧ r 6 k = 0 ∧ r 7 k = 0) ∨ (q 4 k = r 6 k ∧ q 5 k = r 7 k ∧ ¬ q 4 k < 0)) := T.2.2.2.2.1 k hk
theorem lt_args (T : lw_T f tn r n q) (hk : k < n) : tt_in (r 2) n (nI k) = nI (tm_ct (q 1) n k (k + 1)) := by
  rw [tt_in_at hk T.2.2.1, (T.2.2.2.2.2 k hk).1, tm_ct_cg (fun z hz => (lt_Q T hz).2.1) _ _ (Nat.le_refl _)]
theorem lt_size (T : lw_T f tn r n q) (hk : k < n) : tt_in (r 3) n (nI k) = nI (tm_sz (q 1) n k k) := by
  rw [tt_in_at hk T.2.2.1, (T.2.2.2.2.2 k hk).2.1, tm_sz_cg T.2.2.1 T.2.2.2.1 hk (fun z hz => (lt_Q T hz).2.1) _ _ (Nat.le_refl _)]
theorem lt_argument (T : lw_T f tn r n q) (hk : k < n) : tt_child r n (nI k) x = if x < 0 then -1 else tm_ag (q 1) n k x 0 (k + 1) := by
  rw [tt_child_ag T.2.2.1 T.2.2.2.1 hk (fun z hz => (T.2.2.2.2.2 z hz).1) (fun z hz => (T.2.2.2.2.2 z hz).2.1), tm_ag_cg (fun z hz => (lt_Q T hz).2.1) _ _ _ (Nat.le_refl _)]
theorem lt_argument_o {y : Int32} (hn : n ≤ 4096) (h : tm_isT n x = false) : tt_child r n x y = -1 := by
  unfold tt_child
  by_cases h0 : y < 0
  · rw [if_pos h0]
  · rw [if_neg h0, tm_isT_in hn h, if_pos (fun z => h0 (Int32.lt_trans z (by decide)))]
theorem lt_hp (T : lw_T f tn r n q) : ∀ z, z < n → (q 1 z).toInt < z := by
  intro z hz
  have hn := T.2.2.1
  rw [(lt_Q T hz).2.1]
  rcases T.2.2.2.1 z hz with ⟨w1, w2⟩ | ⟨w1, y, w2, w3, w4⟩
  · rw [w2, w1]
    decide
  · rw [w3, nI_toInt (by omega)]
    omega
/-- a term's kind, and what stands there -/
theorem lt_kind (T : lw_T f tn r n q) (hk : k < n) : ∃ x, x < tn ∧ r 4 k = nI x ∧ q 2 k = nI x ∧ ((r 0 k = 0 ∧ q 0 k = 0 ∧ tt_tok f tn x = 0 ∧ r 5 k = nI (tt_to f tn x) ∧ q 3 k = nI (tt_to f tn x) ∧ tt_big f tn x (tt_to f tn x) = false) ∨ (r 0 k = 1 ∧ q 0 k = 1 ∧ tt_tok f tn x = 1 ∧ r 5 k = nI (tt_to f tn x) ∧ q 3 k = nI (tt_to f tn x)) ∨ (r 0 k = 2 ∧ q 0 k = 2 ∧ tt_tok f tn x = 2 ∧ r 5 k = nI (tt_to f tn x) ∧ q 3 k = nI (tt_to f tn x)) ∨ (r 0 k = 3 ∧ q 0 k = 3 ∧ ∃ y, y ≤ tn ∧ r 5 k = nI y ∧ q 3 k = nI y) ∨ (r 0 k = 4 ∧ q 0 k = 4 ∧ tt_tok f tn x = 5 ∧ r 5 k = nI (tt_to f tn x) ∧ q 3 k = nI (tt_to f tn x))) := by
  have Q := lt_Q T hk
  obtain ⟨⟨x, h1, h2, h3⟩, -⟩ := (T.2.2.2.2.2 k hk).2.2
  refine ⟨x, h1, h2, by rw [Q.2.2.1]; exact h2, ?_⟩
  rw [Q.1, Q.2.2.2.1]
  rcases h3 with ⟨a, b, c, d⟩ | ⟨a, b, c⟩ | ⟨a, y, b, c⟩ | ⟨a, b, c⟩
  · exact Or.inl ⟨a, a, b, c, c, d⟩
  · rcases a with a | a
    · exact Or.inr (Or.inl ⟨a, a, by rw [b]; exact a, c, c⟩)
    · exact Or.inr (Or.inr (Or.inl ⟨a, a, by rw [b]; exact a, c, c⟩))
  · exact Or.inr (Or.inr (Or.inr (Or.inl ⟨a, a, y, b, c, c⟩)))
  · exact Or.inr (Or.inr (Or.inr (Or.inr ⟨a, a, b, c, c⟩)))
theorem lt_to {x : Nat} (h : tt_tok f tn x = 0 ∨ tt_tok f tn x = 1 ∨ tt_tok f tn x = 2 ∨ tt_tok f tn x = 5 ∨ tt_tok f tn x = 6) : x < tt_to f tn x ∧ tt_to f tn x ≤ tn := by
  refine tt_to_rng (fun z => ?_) (fun z => ?_) <;> (rw [z] at h; rcases h with h | h | h | h | h <;> exact absurd h (by decide))
theorem tt_ins_0 {y : Int32} : tt_ins f tn 0 0 y = -1 := by
  unfold tt_ins
  by_cases h0 : y < 0
  · rw [if_pos h0]
  · rw [if_neg h0]
    obtain ⟨j, hj, rfl⟩ := nI_of h0
    rw [if_pos (nI_le (Nat.zero_le _) hj)]
/-- a term's mark -/
theorem lt_mark (T : lw_T f tn r n q) (hk : k < n) : (q 4 k = -1 ∧ r 6 k = nI 0 ∧ r 7 k = nI 0) ∨ (q 4 k = nI 0 ∧ q 5 k = nI 0 ∧ r 6 k = nI 0 ∧ r 7 k = nI 0) ∨ (r 0 k = 4 ∧ ∃ z, tt_tok f tn z = 6 ∧ q 4 k = nI (z + 1) ∧ q 5 k = nI (tt_to f tn z) ∧ r 6 k = nI (z + 1) ∧ r 7 k = nI (tt_to f tn z)) := by
  have Q := (lt_Q T hk).2.2.2.2
  obtain ⟨-, h⟩ := (T.2.2.2.2.2 k hk).2.2
  rcases Q with ⟨a, b, c, d⟩ | ⟨a, b, c⟩
  · exact Or.inl ⟨a, c, d⟩
  · rcases h with ⟨h1, h2⟩ | ⟨h1, z, h2, h3, h4, h5⟩
    · exact Or.inr (Or.inl ⟨a.trans h1, b.trans h2, h1, h2⟩)
    · exact Or.inr (Or.inr ⟨h1, z, h3, a.trans h4, b.trans h5, h4, h5⟩)
/-! Bytes stay bytes. -/
theorem tt_i8b (b : Int8) : b.toInt32.toInt8.toInt32 = b.toInt32 := by
  obtain ⟨k, hk, rfl⟩ := tt_i8 b
  revert k
  decide +kernel
theorem tt_upd_b {g : Nat → Int32} {k : Nat} {b : Int8} (h : ∀ z, (g z).toInt8.toInt32 = g z) : ∀ z, (upd g k b.toInt32 z).toInt8.toInt32 = upd g k b.toInt32 z := fun z => by
  unfold upd
  split
  · exact tt_i8b b
  · exact h z
theorem tt_f4_b {g : Nat → Int32} {k : Nat} {v : Int32} (h : ∀ z, (g z).toInt8.toInt32 = g z) : ∀ z, (tt_f4 g k v z).toInt8.toInt32 = tt_f4 g k v z := tt_upd_b (tt_upd_b (tt_upd_b (tt_upd_b h)))
theorem tt_f20_b {g : Nat → Int32} {k : Nat} {a b c d e : Int32} (h : ∀ z, (g z).toInt8.toInt32 = g z) : ∀ z, (tt_f20 g k a b c d e z).toInt8.toInt32 = tt_f20 g k a b c d e z := tt_f4_b (tt_f4_b (tt_f4_b (tt_f4_b (tt_f4_b h))))
theorem tt_rpF_b {g : Nat → Int32} {k : Nat} {x b : Int32} (h : ∀ z, (g z).toInt8.toInt32 = g z) : ∀ z, (tt_rpF g k x b z).toInt8.toInt32 = tt_rpF g k x b z := by
  unfold tt_rpF
  repeat' split
  all_goals first | exact h | exact tt_upd_b h
/-- behind a reading -/
theorem lw_T_read {mc2 : Nat} {q2 : Nat → Nat → Int32} (hc : cn ≤ 16384) (hf : ∀ k, (f k).toInt8.toInt32 = f k) (h : tm_RD f cn r (tt_rdA f cn r) mc2 q2) : lw_T f cn (tt_rdS f cn r).1 mc2 q2 := by
  obtain ⟨-, h2, h3, h4⟩ := h
  by_cases z : tt_rdA f cn r = -1
  · have a := tt_rd_all (f := f) (n := cn) (r := r) hc z
    have h4 := h4 z
    rw [h2] at h4 ⊢
    exact ⟨hf, hc, a.1, a.2.1, h4, a.2.2⟩
  · have e : mc2 = 0 := by
      rw [h2]
      unfold tt_rdN
      rw [if_neg z]
    rw [e]
    exact ⟨hf, hc, Nat.zero_le _, fun t ht => absurd ht (Nat.not_lt_zero _), fun t ht => absurd ht (Nat.not_lt_zero _), fun t ht => absurd ht (Nat.not_lt_zero _)⟩
/-- bits of a number -/
theorem lt_part_n {x : Nat} {Lb dg : Nat → Nat} {y : Int32} (h : tt_tok f tn x = 0) (hb : tt_big f tn x (tt_to f tn x) = false) : (if nI (tt_btF (tt_tk f tn (tt_to f tn x) (tt_fd f tn x (tt_to f tn x)) (Lb, 0) 1 0).1 (32 * (tt_tk f tn (tt_to f tn x) (tt_fd f tn x (tt_to f tn x)) (Lb, 0) 1 0).2)) ≤ y then -1 else tt_bitA (tt_tk f tn (tt_to f tn x) (tt_fd f tn x (tt_to f tn x)) (Lb, 0) 1 0).1 (tt_tk f tn (tt_to f tn x) (tt_fd f tn x (tt_to f tn x)) (Lb, 0) 1 0).2 y) = (if y < 0 then -1 else if ¬ y < nI (tm_bits (tm_nl f tn (tt_to f tn x) (tm_st0 f tn x) (dg, 0)).2.1 (tm_nl f tn (tt_to f tn x) (tm_st0 f tn x) (dg, 0)).2.2) then -1 else nI ((tm_nl f tn (tt_to f tn x) (tm_st0 f tn x) (dg, 0)).2.1 (y.toNatClampNeg / 16) / 2 ^ (y.toNatClampNeg % 16) % 2)) := by
  obtain ⟨e1, e2, -⟩ := tt_num_all dg Lb h hb
  have nN := tm_nlN (dg := dg) (tt_numdig h).2.2
  have kN := tt_tkN (L := Lb) (tt_numdig h).2.2
  have b16 := tm_bits16 nN.2
  rw [e1]
  generalize (tm_nl f tn (tt_to f tn x) (tm_st0 f tn x) (dg, 0)).2 = S at *
  generalize tt_tk f tn (tt_to f tn x) (tt_fd f tn x (tt_to f tn x)) (Lb, 0) 1 0 = T at *
  by_cases h0 : y < 0
  · rw [if_pos h0]
    have : ¬ nI (tm_bits S.1 S.2) ≤ y := fun z => by
      have a := Int32.le_iff_toInt_le.mp z
      have b := Int32.lt_iff_toInt_lt.mp h0
      rw [nI_toInt (by omega)] at a
      have e : (0 : Int32).toInt = 0 := rfl
      omega
    rw [if_neg this]
    unfold tt_bitA
    rw [if_pos h0]
  · rw [if_neg h0]
    have w := tt_nlt_le (k := tm_bits S.1 S.2) h0 (by omega)
    obtain ⟨j, hj, rfl⟩ := nI_of h0
    by_cases z : nI (tm_bits S.1 S.2) ≤ nI j
    · rw [if_pos z, if_pos (w.mpr z)]
    · have hlt : j < tm_bits S.1 S.2 := Nat.lt_of_not_le (fun q => z ((nI_leI (by omega) hj).mpr q))
      have e3 := e2 j hlt
      rw [if_neg z, if_neg (fun q => z (w.mp q)), nI_clamp hj, ← e3.2]
      unfold tt_bitA
      rw [if_neg (nI_pos hj), if_neg (fun q => q (nI_lt e3.1 (by omega))), nI_clamp hj]
end
