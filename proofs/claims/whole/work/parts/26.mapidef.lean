/-! The reference's looks at its terms. -/
theorem tm_isT_n {n k : Nat} (hk : k < n) (hn : n ≤ 4096) : tm_isT n (nI k) = true := by
  simp only [tm_isT, Bool.and_eq_true, Bool.not_eq_true', decide_eq_false_iff_not, decide_eq_true_eq]
  exact ⟨nI_pos (by omega), nI_lt hk (by omega)⟩
def tm_ct (p : Nat → Int32) (mc t c : Nat) : Nat := if h : c < mc then (if p c = nI t then 1 else 0) + tm_ct p mc t (c + 1) else 0
termination_by mc - c
def tm_ag (p : Nat → Int32) (mc t : Nat) (i : Int32) (n c : Nat) : Int32 := if h : c < mc then (if p c = nI t then (if nI n = i then nI c else tm_ag p mc t i (n + 1) (c + 1)) else tm_ag p mc t i n (c + 1)) else -1
termination_by mc - c
/-- from a term upwards until it is not above t -/
def tm_rt (p : Nat → Int32) (t : Nat) (x : Int32) : Int32 := if h : 0 < x.toInt ∧ ¬ x ≤ nI t ∧ (p x.toNatClampNeg).toInt < x.toInt then tm_rt p t (p x.toNatClampNeg) else x
termination_by x.toInt.toNat
decreasing_by omega
def tm_sz (p : Nat → Int32) (mc t c : Nat) : Nat := if h : c < mc then (if tm_rt p t (nI c) = nI t then 1 else 0) + tm_sz p mc t (c + 1) else 0
termination_by mc - c
theorem tm_rt_go {p : Nat → Int32} {t : Nat} {x : Int32} (h0 : 0 < x.toInt) (h1 : ¬ x ≤ nI t) (h2 : (p x.toNatClampNeg).toInt < x.toInt) : tm_rt p t (p x.toNatClampNeg) = tm_rt p t x := by
  conv => rhs; rw [tm_rt, dif_pos ⟨h0, h1, h2⟩]
theorem tm_rt_st {p : Nat → Int32} {t : Nat} {x : Int32} (h1 : x ≤ nI t) : tm_rt p t x = x := by
  rw [tm_rt, dif_neg (fun z => z.2.1 h1)]
theorem tm_upv {x : Int32} {t mc : Nat} (h : ¬ x ≤ nI t) (ht : t < 4096) (hx : x.toInt < mc) (hm : mc ≤ 4096) : vp_in x 4096 ∧ 0 < x.toInt ∧ (x.toNatClampNeg : Int) = x.toInt := by
  have a : ¬ x.toInt ≤ (nI t).toInt := fun z => h (Int32.le_iff_toInt_le.mpr z)
  rw [nI_toInt (by omega)] at a
  refine ⟨vp_in_iff.mpr (by omega), by omega, ?_⟩
  show ((x.toInt.toNat : Nat) : Int) = x.toInt
  omega
def tm_cA (f : Nat → Int32) (n e : Nat) : Nat → Nat → Nat
  | 0, k => k
  | q + 1, k => if k < e then tm_cA f n e q (tt_nx f n k) else k
theorem tt_ch92 {f : Nat → Int32} {n i : Nat} (hf : ∀ k, (f k).toInt8.toInt32 = f k) (hi : i < n) : f i = 92 ↔ tt_ch f n i = 92 := tt_chraw hf hi (c := 92) (by decide) (tt_b7 92 (by decide))
theorem tt_ch45 {f : Nat → Int32} {n i : Nat} (hf : ∀ k, (f k).toInt8.toInt32 = f k) (hi : i < n) : f i = 45 ↔ tt_ch f n i = 45 := tt_chraw hf hi (c := 45) (by decide) (tt_b7 45 (by decide))
theorem tt_ltz {i : Int32} (h : ¬ 0 ≤ i) : i < 0 := by
  rw [Int32.lt_iff_toInt_lt]
  have e : (0 : Int32).toInt = 0 := rfl
  rcases Int.lt_or_le i.toInt (0 : Int32).toInt with z | z
  · exact z
  · exact absurd (Int32.le_iff_toInt_le.mpr z) h
theorem tt_nltz {i : Int32} (h : 0 ≤ i) : ¬ i < 0 := by
  intro z
  have a := Int32.lt_iff_toInt_lt.mp z
  have b := Int32.le_iff_toInt_le.mp h
  omega
theorem tm_cA_out {f : Nat → Int32} {n e q k : Nat} (h : ¬ k < e) : tm_cA f n e q k = k := by
  cases q with
  | zero => rfl
  | succ q => rw [tm_cA, if_neg h]
theorem tm_cA_le (f : Nat → Int32) (n e : Nat) : ∀ (q k : Nat), k ≤ tm_cA f n e q k ∧ tm_cA f n e q k ≤ max (e + 1) k := by
  intro q
  induction q with
  | zero => intro k; exact ⟨Nat.le_refl _, by show k ≤ _; omega⟩
  | succ q ih =>
    intro k
    rw [tm_cA]
    split
    · have a := ih (tt_nx f n k)
      have b : k + 1 ≤ tt_nx f n k ∧ tt_nx f n k ≤ k + 2 := by unfold tt_nx; split <;> omega
      omega
    · omega
