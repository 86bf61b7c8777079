/-! The transitions of a sequence's loop. -/
theorem tm_lf3 {tk : Int32} {du : Int32} (h : (decide (tk = 0) || decide (tk = 1) || decide (tk = 2)) = true) : tk = 0 ∨ tk = 1 ∨ tk = 2 ∨ (tk = 4 ∧ tt_ia du = true) := by
  simp only [Bool.or_eq_true, decide_eq_true_eq] at h
  rcases h with (h | h) | h
  · exact Or.inl h
  · exact Or.inr (Or.inl h)
  · exact Or.inr (Or.inr (Or.inl h))
theorem tm_PTm {f : Nat → Int32} {tn j : Nat} {r : Nat → Nat → Int32} {n : Nat} {pa dp du : Int32} {b : Bool} {mc2 : Nat} {pl2 tk2 : Int32} {fr2 tj2 : Nat} {q2 : Nat → Nat → Int32} (h : tm_PT f tn j r n pa dp du b mc2 pl2 tk2 fr2 tj2 q2) (hb : b = true) : mc2 ≤ 4096 := by
  rcases h with ⟨-, j', r', h1, h2, h3, h4, -⟩ | ⟨h, -⟩
  · exact h4
  · rw [hb] at h; exact absurd h (by decide)
theorem tm_lt60 {f : Nat → Int32} {tn n dp : Nat} {k : Int32} {fr tj : Nat} {dg : Nat → Nat} (h : tm_tOK f tn n k (nI dp) fr tj dg = true) (hd : dp ≤ 60) : dp < 60 := by
  simp only [tm_tOK, Bool.and_eq_true, Bool.not_eq_true', decide_eq_false_iff_not] at h
  rcases Nat.lt_or_ge dp 60 with z | z
  · exact z
  · exact absurd (show (60 : Int32) ≤ nI dp from nI_le (a := 60) z (by omega)) h.1.2
theorem tm_PIf {f : Nat → Int32} {tn j : Nat} {r : Nat → Nat → Int32} {n : Nat} {pa dp du : Int32} {b : Bool} {mc2 : Nat} {pl2 tk2 : Int32} {fr2 tj2 : Nat} {q2 : Nat → Nat → Int32} (h : tm_PI f tn j r n pa dp du b mc2 pl2 tk2 fr2 tj2 q2) (hb : b = false) : ∃ p, pl2 = nI p ∧ tt_F f tn j (r, n, pa, dp, du) p := by
  rcases h with ⟨h, -⟩ | ⟨-, h⟩
  · rw [hb] at h; exact absurd h (by decide)
  · exact h
theorem tm_PIt {f : Nat → Int32} {tn j : Nat} {r : Nat → Nat → Int32} {n : Nat} {pa dp du : Int32} {b : Bool} {mc2 : Nat} {pl2 tk2 : Int32} {fr2 tj2 : Nat} {q2 : Nat → Nat → Int32} (h : tm_PI f tn j r n pa dp du b mc2 pl2 tk2 fr2 tj2 q2) (hb : b = true) : ∃ (j' : Nat) (r' : Nat → Nat → Int32) (op' dp' du' : Int32), tt_R f tn j (r, n, pa, dp, du) j' (r', mc2, op', dp', du') ∧ tt_bl f tn false j < j' ∧ n ≤ mc2 ∧ mc2 ≤ 4096 ∧ tt_Q q2 r' mc2 ∧ tt_E r r' n ∧ tm_sc f tn j' tk2 fr2 tj2 ∧ tm_AI pa dp (tt_tok f tn fr2) (r', mc2, op', dp', du') := by
  rcases h with ⟨-, h⟩ | ⟨h, -⟩
  · exact h
  · rw [hb] at h; exact absurd h (by decide)
theorem tm_pk3 {r1 : Nat → Nat → Int32} {n mc1 : Nat} (hn : n < mc1) (hk : r1 0 n = 3) : ∀ (r' : Nat → Nat → Int32) (n' : Nat), tt_E r1 r' mc1 → mc1 ≤ n' → n' ≤ 4096 → ¬ tt_in (r' 0) n' (nI n) = 4 := by
  intro r' n' hE h1 h2
  rw [tt_in_at (by omega) h2, (hE n hn).1, hk]
  decide
theorem tm_st {r1 : Nat → Nat → Int32} {mc1 n dp : Nat} {op1 dp1 du1 tk1 : Int32} (h : (op1 = nI n ∧ dp1 = nI (dp + 1) ∧ du1 = 0) ∨ (tk1 = 125 ∧ tt_clIt 125 (r1, mc1, op1, dp1, du1) = (r1, mc1, nI n, nI (dp + 1), 1))) : (op1 = nI n ∧ dp1 = nI (dp + 1) ∧ du1 = 0) ∨ tt_clIt 125 (r1, mc1, op1, dp1, du1) = (r1, mc1, nI n, nI (dp + 1), 1) := by
  rcases h with h | h
  · exact Or.inl h
  · exact Or.inr h.2
theorem tm_st1 {r1 : Nat → Nat → Int32} {mc1 n dp : Nat} {op1 dp1 du1 tk1 : Int32} (h : (op1 = nI n ∧ dp1 = nI (dp + 1) ∧ du1 = 0) ∨ (tk1 = 125 ∧ tt_clIt 125 (r1, mc1, op1, dp1, du1) = (r1, mc1, nI n, nI (dp + 1), 1))) (hk : ¬ tk1 = 125) : (r1, mc1, op1, dp1, du1) = (r1, mc1, nI n, nI (dp + 1), 0) := by
  rcases h with ⟨h1, h2, h3⟩ | h
  · rw [h1, h2, h3]
  · exact absurd h.1 hk
section
variable {f : Nat → Int32} {tn j j1 j2 n mc1 mc2 dp : Nat} {r r1 r2 q1 q2 : Nat → Nat → Int32} {pa du op1 dp1 du1 op2 dp2 du2 tk1 tk2 : Int32} {fr1 tj1 fr2 tj2 : Nat}
/-- ; behind an item -/
theorem tm_SQ_s (hR1 : tt_R f tn j (r, n, pa, nI dp, du) j1 (r1, mc1, op1, dp1, du1)) (hb1 : tt_bl f tn false j < j1) (hn1 : n < mc1) (hE1 : tt_E r r1 n) (hk1 : r1 0 n = 3) (hp1 : r1 1 n = pa) (hR2 : tt_R f tn j1 (r1, mc1, nI n, nI (dp + 1), 0) j2 (r2, mc2, op2, dp2, du2)) (hb2 : tt_bl f tn false j1 < j2) (hn2 : mc1 ≤ mc2) (hm2 : mc2 ≤ 4096) (hQ2 : tt_Q q2 r2 mc2) (hE2 : tt_E r1 r2 mc1)
    (hse : tj2 ≤ tn ∧ tt_bl f tn false j2 < tj2 ∧ tt_R f tn j2 (r2, mc2, op2, dp2, du2) tj2 (r2, mc2, nI n, nI (dp + 1), 0)) (hst : (op1 = nI n ∧ dp1 = nI (dp + 1) ∧ du1 = 0) ∨ (tk1 = 125 ∧ tt_clIt 125 (r1, mc1, op1, dp1, du1) = (r1, mc1, nI n, nI (dp + 1), 1))) (hj : j1 ≤ tn ∧ j2 ≤ tn) (hk : ¬ tk1 = 125) : tm_SQ f tn j r n pa dp du mc2 (tm_tok f tn (tt_bl f tn false tj2)) (tt_bl f tn false tj2) (tm_to f tn (tt_bl f tn false tj2)) q2 := by
  rw [tm_st1 hst hk] at hR1
  have a1 := tt_bl_n (f := f) hj.1
  have a2 := tt_bl_n (f := f) hj.2
  have e := hE2 n hn1
  exact ⟨tj2, r2, nI n, nI (dp + 1), 0, (hR1.trans hR2).trans hse.2.2, by omega, by omega, hm2, hQ2, tm_E_trans hE1 hE2 (by omega), tm_sc_next hse.1, by rw [e.1]; exact hk1, by rw [e.2]; exact hp1, Or.inl ⟨rfl, rfl, rfl⟩⟩
/-- } behind an item -/
theorem tm_SQ_b (hR1 : tt_R f tn j (r, n, pa, nI dp, du) j1 (r1, mc1, op1, dp1, du1)) (hb1 : tt_bl f tn false j < j1) (hn1 : n < mc1) (hE1 : tt_E r r1 n) (hk1 : r1 0 n = 3) (hp1 : r1 1 n = pa) (hR2 : tt_R f tn j1 (r1, mc1, nI n, nI (dp + 1), 0) j2 (r2, mc2, op2, dp2, du2)) (hb2 : tt_bl f tn false j1 < j2) (hn2 : mc1 ≤ mc2) (hm2 : mc2 ≤ 4096) (hQ2 : tt_Q q2 r2 mc2) (hE2 : tt_E r1 r2 mc1) (hsc2 : tm_sc f tn j2 tk2 fr2 tj2) (hj1 : j1 ≤ tn) (hst : (op1 = nI n ∧ dp1 = nI (dp + 1) ∧ du1 = 0) ∨ (tk1 = 125 ∧ tt_clIt 125 (r1, mc1, op1, dp1, du1) = (r1, mc1, nI n, nI (dp + 1), 1))) (hk : ¬ tk1 = 125) (h125 : tk2 = 125) (hA : tm_AI (nI n) (nI (dp + 1)) (tt_tok f tn fr2) (r2, mc2, op2, dp2, du2)) : tm_SQ f tn j r n pa dp du mc2 tk2 fr2 tj2 q2 := by
  rw [tm_st1 hst hk] at hR1
  have a1 := tt_bl_n (f := f) hj1
  have e := hE2 n hn1
  exact ⟨j2, r2, op2, dp2, du2, hR1.trans hR2, by omega, by omega, hm2, hQ2, tm_E_trans hE1 hE2 (by omega), hsc2, by rw [e.1]; exact hk1, by rw [e.2]; exact hp1, Or.inr ⟨h125, tm_seq_rb hsc2 h125 hA⟩⟩
theorem tm_SQ_f {pl2 : Int32} (hR1 : tt_R f tn j (r, n, pa, nI dp, du) j1 (r1, mc1, op1, dp1, du1)) (hst : (op1 = nI n ∧ dp1 = nI (dp + 1) ∧ du1 = 0) ∨ (tk1 = 125 ∧ tt_clIt 125 (r1, mc1, op1, dp1, du1) = (r1, mc1, nI n, nI (dp + 1), 1))) (hk : ¬ tk1 = 125) (hF : ∃ p, pl2 = nI p ∧ tt_F f tn j1 (r1, mc1, nI n, nI (dp + 1), 0) p) : tm_PT f tn j r n pa (nI dp) du false mc2 pl2 tk2 fr2 tj2 q2 := by
  rw [tm_st1 hst hk] at hR1
  obtain ⟨p, h1, h2⟩ := hF
  exact Or.inr ⟨rfl, p, h1, hR1.fail h2⟩
theorem tm_SQ_x {p : Nat} (hR1 : tt_R f tn j (r, n, pa, nI dp, du) j1 (r1, mc1, op1, dp1, du1)) (hst : (op1 = nI n ∧ dp1 = nI (dp + 1) ∧ du1 = 0) ∨ (tk1 = 125 ∧ tt_clIt 125 (r1, mc1, op1, dp1, du1) = (r1, mc1, nI n, nI (dp + 1), 1))) (hk : ¬ tk1 = 125) (hR2 : tt_R f tn j1 (r1, mc1, nI n, nI (dp + 1), 0) j2 (r2, mc2, op2, dp2, du2)) (hF : tt_F f tn j2 (r2, mc2, op2, dp2, du2) p) : tm_PT f tn j r n pa (nI dp) du false mc2 (nI p) tk2 fr2 tj2 q2 := by
  rw [tm_st1 hst hk] at hR1
  exact Or.inr ⟨rfl, p, rfl, hR1.fail (hR2.fail hF)⟩
theorem tm_SQ_e (hR1 : tt_R f tn j (r, n, pa, nI dp, du) j1 (r1, mc1, op1, dp1, du1)) (hb1 : tt_bl f tn false j < j1) (hj1 : j1 ≤ tn) (hn1 : n < mc1) (hm1 : mc1 ≤ 4096) (hE1 : tt_E r r1 n) {pl2 : Int32} (hc : tj1 ≤ tn ∧ tt_bl f tn false j1 < tj1 ∧ tt_R f tn j1 (r1, mc1, op1, dp1, du1) tj1 (tt_set r1 5 n (nI tj1), mc1, pa, nI dp, tt_db (tt_set r1 5 n (nI tj1)) mc1 pa) ∧ tt_Q (tt_set q1 3 n (nI tj1)) (tt_set r1 5 n (nI tj1)) mc1) : tm_PT f tn j r n pa (nI dp) du true mc1 pl2 (tm_tok f tn (tt_bl f tn false tj1)) (tt_bl f tn false tj1) (tm_to f tn (tt_bl f tn false tj1)) (tt_set q1 3 n (nI tj1)) := by
  have a1 := tt_bl_n (f := f) hj1
  exact Or.inl ⟨rfl, tj1, tt_set r1 5 n (nI tj1), hR1.trans hc.2.2.1, by omega, by omega, hm1, hc.2.2.2, tm_E_set hE1 ⟨by decide, by decide⟩, tm_sc_next hc.1⟩
end
