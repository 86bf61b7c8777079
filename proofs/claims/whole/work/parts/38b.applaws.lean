/-! Steps of the class for an application. -/
theorem tm_has {n t : Nat} (ht : t < n) (hn : n ≤ 4096) : tt_has n (nI t) = true := by
  simp only [tt_has, Bool.and_eq_true, Bool.not_eq_true', decide_eq_false_iff_not]
  exact ⟨nI_pos (by omega), nI_ge ht (by omega)⟩
def tm_ap (du : Int32) : Prop := du = 3 ∨ du = 4
theorem tm_ap_ia {du : Int32} (h : tm_ap du) : tt_ia du = true := by
  rcases h with h | h <;> subst h <;> decide
theorem tm_ap0 {du : Int32} (h : tm_ap du) : ¬ du = 0 ∧ ¬ du = 1 ∧ ¬ du = 2 := by
  rcases h with h | h <;> subst h <;> decide
theorem tm_Q_mark {q r : Nat → Nat → Int32} {n t : Nat} {a b : Nat} (ha : a < 2 ^ 31) (h : tt_Q q r n) : tt_Q (tt_set (tt_set q 4 t (nI a)) 5 t (nI b)) (tt_set (tt_set r 6 t (nI a)) 7 t (nI b)) n := fun z hz => by
  have := h z hz
  have hp := nI_pos ha
  simp only [tt_set_get]
  by_cases e : z = t
  · subst e
    simp at this ⊢
    refine ⟨this.1, this.2.1, this.2.2.1, this.2.2.2.1, Or.inr ?_⟩
    simpa using hp
  · simpa [e] using this
/-- the mark of the application t -/
theorem tm_app_mark {f : Nat → Int32} {tn j1 t n1 : Nat} {q1 r1 : Nat → Nat → Int32} {dp1 tk : Int32} {fr tj : Nat} (hs : tm_sc f tn j1 tk fr tj) (htn : tn ≤ 16384) (hk : tk = 6) (hn : n1 ≤ 4096) (ht : t < n1) (hQ : tt_Q q1 r1 n1) :
    tj ≤ tn ∧ tt_bl f tn false j1 < tj ∧ tt_R f tn j1 (r1, n1, nI t, dp1, 3) tj (tt_set (tt_set r1 6 t (nI (fr + 1))) 7 t (nI tj), n1, nI t, dp1, 4) ∧ tt_Q (tt_set (tt_set q1 4 t (nI (fr + 1))) 5 t (nI tj)) (tt_set (tt_set r1 6 t (nI (fr + 1))) 7 t (nI tj)) n1 := by
  have hs' := hs
  obtain ⟨hj, hfr, htk, htj⟩ := hs'
  have hb := tt_bl_n (f := f) hj
  have hT : tt_tok f tn (tt_bl f tn false j1) = 6 := tm_inv (by rw [← hfr, ← htk]; exact hk) (by decide) (by decide)
  have hcl : tt_clIt 6 (r1, n1, nI t, dp1, 3) = (r1, n1, nI t, dp1, 3) := tt_cl_other (by decide) (by decide) (by decide)
  have htake : tt_take' f tn 6 fr tj (r1, n1, nI t, dp1, 3) = (true, (tt_set (tt_set r1 6 t (nI (fr + 1))) 7 t (nI tj), n1, nI t, dp1, 4)) := by
    have e2 : tt_mkR r1 n1 (nI t) (fr + 1) tj = tt_set (tt_set r1 6 t (nI (fr + 1))) 7 t (nI tj) := by
      unfold tt_mkR
      rw [if_pos (tm_has ht hn), nI_clamp (by omega)]
    simp [tt_take', tt_take, tt_tM, e2]
  have := tm_go (σ := (r1, n1, nI t, dp1, 3)) hs hT (by decide) (by decide) hcl htake
  exact ⟨this.2.1, this.2.2, this.1, tm_Q_mark (by omega) hQ⟩
/-- ( in an application -/
theorem tm_app_paren {f : Nat → Int32} {tn j1 n1 : Nat} {r1 : Nat → Nat → Int32} {op1 dp1 du1 tk : Int32} {fr tj : Nat} (hs : tm_sc f tn j1 tk fr tj) (hk : tk = 40) (hdu : tm_ap du1) : tj ≤ tn ∧ tt_bl f tn false j1 < tj ∧ tt_R f tn j1 (r1, n1, op1, dp1, du1) tj (r1, n1, op1, dp1, 2) := by
  have hs' := hs
  obtain ⟨hj, hfr, htk, htj⟩ := hs'
  have hT : tt_tok f tn (tt_bl f tn false j1) = 40 := tm_inv (by rw [← hfr, ← htk]; exact hk) (by decide) (by decide)
  have hcl : tt_clIt 40 (r1, n1, op1, dp1, du1) = (r1, n1, op1, dp1, du1) := tt_cl_other (by decide) (by decide) (by decide)
  have htake : tt_take' f tn 40 fr tj (r1, n1, op1, dp1, du1) = (true, (r1, n1, op1, dp1, 2)) := by
    simp [tt_take', tt_take, tt_tO, tm_ap_ia hdu]
  have := tm_go (σ := (r1, n1, op1, dp1, du1)) hs hT (by decide) (by decide) hcl htake
  exact ⟨this.2.1, this.2.2, this.1⟩
/-- behind ( something else than a word -/
theorem tm_head_bad {f : Nat → Int32} {tn j1 n1 : Nat} {r1 : Nat → Nat → Int32} {op1 dp1 tk : Int32} {fr tj : Nat} (hs : tm_sc f tn j1 tk fr tj) (hk : ¬ tk = 4) (hop : ¬ op1 = -1) : tt_F f tn j1 (r1, n1, op1, dp1, 2) fr := by
  have hs' := hs
  obtain ⟨hj, hfr, htk, htj⟩ := hs'
  have e := (tm_tok_eq f tn fr).1
  rw [← htk] at e
  have n5 : ¬ tt_tok f tn fr = 5 := fun z => by rw [z] at e; exact hk (by rw [e]; decide)
  have hcl : ∀ T, tt_clIt T (r1, n1, op1, dp1, 2) = (r1, n1, op1, dp1, 2) := fun T => by simp [tt_clIt, tt_ia]
  refine tm_no hs (fun z => ?_) (fun b i k z => ?_)
  · rw [hcl]
    exact fun w => hop w.1
  · rw [hcl]
    simp only [tt_take, n5, if_false]
    repeat' split
    all_goals first | rfl | simp [tt_lf, tt_ia] | simp [tt_tM] | simp [tt_tO, tt_ia] | simp [tt_tC, tt_ia] | simp [tt_tS] | simp [tt_tQ, tt_ia] | simp [tt_tE]
theorem tm_ip {r : Nat → Nat → Int32} {n t : Nat} {pa : Int32} (ht : t < n) (hn : n ≤ 4096) (hp : r 1 t = pa) : tt_ip r n (nI t) = decide (tt_in (r 0) n pa = 4) := by
  unfold tt_ip
  rw [tt_in_at ht hn, hp]
/-- ) behind an application in parentheses -/
theorem tm_app_close {f : Nat → Int32} {tn j1 t n1 dp : Nat} {r1 : Nat → Nat → Int32} {du1 pa tk : Int32} {fr tj : Nat} (hs : tm_sc f tn j1 tk fr tj) (hk : tk = 41) (hn : n1 ≤ 4096) (ht : t < n1) (hp : r1 1 t = pa) (h4 : tt_in (r1 0) n1 pa = 4) (hdu : tm_ap du1) : tj ≤ tn ∧ tt_bl f tn false j1 < tj ∧ tt_R f tn j1 (r1, n1, nI t, nI (dp + 1), du1) tj (r1, n1, pa, nI dp, 4) := by
  have hs' := hs
  obtain ⟨hj, hfr, htk, htj⟩ := hs'
  have hT : tt_tok f tn (tt_bl f tn false j1) = 41 := tm_inv (by rw [← hfr, ← htk]; exact hk) (by decide) (by decide)
  have hcl : tt_clIt 41 (r1, n1, nI t, nI (dp + 1), du1) = (r1, n1, nI t, nI (dp + 1), du1) := tt_cl_other (by decide) (by decide) (by decide)
  have htake : tt_take' f tn 41 fr tj (r1, n1, nI t, nI (dp + 1), du1) = (true, (r1, n1, pa, nI dp, 4)) := by
    have e1 : tt_ip r1 n1 (nI t) = true := by rw [tm_ip ht hn hp, h4]; decide
    have e2 : tt_in (r1 1) n1 (nI t) = pa := by rw [tt_in_at ht hn, hp]
    simp [tt_take', tt_take, tt_tC, tm_ap_ia hdu, e1, tt_close, e2, tm_dec, tt_db, h4]
  have := tm_go (σ := (r1, n1, nI t, nI (dp + 1), du1)) hs hT (by decide) (by decide) hcl htake
  exact ⟨this.2.1, this.2.2, this.1⟩
/-- what is no argument and no mark -/
def tm_na (tk du : Int32) : Prop := ¬ tk = 0 ∧ ¬ tk = 1 ∧ ¬ tk = 2 ∧ ¬ tk = 4 ∧ ¬ tk = 123 ∧ ¬ tk = 40 ∧ (tk = 6 → ¬ du = 3)
theorem tm_na_T {f : Nat → Int32} {tn fr : Nat} {tk du : Int32} (htk : tk = tm_tok f tn fr) (h : tm_na tk du) : ¬ tt_tok f tn fr = 0 ∧ ¬ tt_tok f tn fr = 1 ∧ ¬ tt_tok f tn fr = 2 ∧ ¬ tt_tok f tn fr = 5 ∧ ¬ tt_tok f tn fr = 123 ∧ ¬ tt_tok f tn fr = 40 ∧ (tt_tok f tn fr = 6 → ¬ du = 3) := by
  have e := (tm_tok_eq f tn fr).1
  rw [← htk] at e
  obtain ⟨h0, h1, h2, h4, h3, h40, h6⟩ := h
  refine ⟨fun z => ?_, fun z => ?_, fun z => ?_, fun z => ?_, fun z => ?_, fun z => ?_, fun z => ?_⟩ <;> rw [z] at e
  · exact h0 (by rw [e]; decide)
  · exact h1 (by rw [e]; decide)
  · exact h2 (by rw [e]; decide)
  · exact h4 (by rw [e]; decide)
  · exact h3 (by rw [e]; decide)
  · exact h40 (by rw [e]; decide)
  · exact h6 (by rw [e]; decide)
/-- what is no ) behind an application in parentheses -/
theorem tm_app_bad {f : Nat → Int32} {tn j1 t n1 : Nat} {r1 : Nat → Nat → Int32} {dp1 du1 pa tk : Int32} {fr tj : Nat} (hs : tm_sc f tn j1 tk fr tj) (hk : ¬ tk = 41) (hna : tm_na tk du1) (hn : n1 ≤ 4096) (ht : t < n1) (hp : r1 1 t = pa) (h4 : tt_in (r1 0) n1 pa = 4) (hdu : tm_ap du1) : tt_F f tn j1 (r1, n1, nI t, dp1, du1) fr := by
  have hs' := hs
  obtain ⟨hj, hfr, htk, htj⟩ := hs'
  have e := (tm_tok_eq f tn fr).1
  rw [← htk] at e
  have n41 : ¬ tt_tok f tn fr = 41 := fun z => by rw [z] at e; exact hk (by rw [e]; decide)
  obtain ⟨a0, a1, a2, a5, a3, a40, a6⟩ := tm_na_T htk hna
  have e1 : tt_ip r1 n1 (nI t) = true := by rw [tm_ip ht hn hp, h4]; decide
  have hcl : ∀ T, tt_clIt T (r1, n1, nI t, dp1, du1) = (r1, n1, nI t, dp1, du1) := fun T => by simp [tt_clIt, e1]
  have d0 := tm_ap0 hdu
  refine tm_no hs (fun z => ?_) (fun b i k z => ?_)
  · rw [hcl]
    exact fun w => tm_nI1 (by omega) w.1
  · rw [hcl]
    simp only [tt_take, a0, a1, a2, a5, a3, a40, n41, if_false]
    split
    · rename_i g
      simp [tt_tM, a6 g]
    split
    · simp [tt_tS, d0.2.1]
    split
    · simp [tt_tE, d0.1, d0.2.1]
    · rfl
/-- behind an application of pa, before a token that is none of its arguments -/
def tm_PA (f : Nat → Int32) (tn j : Nat) (r : Nat → Nat → Int32) (n : Nat) (pa : Int32) (dp : Nat) (du : Int32) (b : Bool) (mc2 : Nat) (pl2 tk2 : Int32) (fr2 tj2 : Nat) (q2 : Nat → Nat → Int32) : Prop :=
  (b = true ∧ ∃ (j' : Nat) (r' : Nat → Nat → Int32) (du' : Int32), tt_R f tn j (r, n, pa, nI dp, du) j' (r', mc2, nI n, nI (dp + 1), du') ∧ tt_bl f tn false j < j' ∧ n < mc2 ∧ mc2 ≤ 4096 ∧ tt_Q q2 r' mc2 ∧ tt_E r r' n ∧ tm_sc f tn j' tk2 fr2 tj2 ∧ r' 0 n = 4 ∧ r' 1 n = pa ∧ tm_ap du' ∧ tm_na tk2 du') ∨ (b = false ∧ ∃ p, pl2 = nI p ∧ tt_F f tn j (r, n, pa, nI dp, du) p)
theorem tm_PA_PI {f : Nat → Int32} {tn j : Nat} {r : Nat → Nat → Int32} {n dp : Nat} {pa du : Int32} {b : Bool} {mc2 : Nat} {pl2 tk2 : Int32} {fr2 tj2 : Nat} {q2 : Nat → Nat → Int32} (h : tm_PA f tn j r n pa dp du b mc2 pl2 tk2 fr2 tj2 q2) (hp : ∀ r', tt_E r r' n → n ≤ mc2 → ¬ tt_in (r' 0) mc2 pa = 4) : tm_PI f tn j r n pa (nI dp) du b mc2 pl2 tk2 fr2 tj2 q2 := by
  rcases h with ⟨hb, j', r', du', h1, h2, h3, h4, h5, h6, h7, h8, h9, hap, hna⟩ | h
  · have hnp := hp r' h6 (by omega)
    refine Or.inl ⟨hb, j', r', nI n, nI (dp + 1), du', h1, h2, by omega, h4, h5, h6, h7, ?_⟩
    have e1 : tt_ip r' mc2 (nI n) = false := by rw [tm_ip h3 h4 h9]; simp [hnp]
    have e2 : tt_in (r' 1) mc2 (nI n) = pa := by rw [tt_in_at h3 h4, h9]
    obtain ⟨a0, a1, a2, a5, a3, a40, a6⟩ := tm_na_T h7.2.2.1 hna
    have d0 := tm_ap0 hap
    refine ⟨fun w => ?_, fun w bb i k => ?_⟩
    · unfold tt_clIt
      rw [if_pos ⟨w, tm_ap_ia hap, e1⟩]
      simp [tt_close, e2, tm_dec, tt_db, hnp]
    · have w1 : ¬ tt_tok f tn fr2 = 59 := fun z => w (Or.inl z)
      have w2 : ¬ tt_tok f tn fr2 = 125 := fun z => w (Or.inr (Or.inl z))
      have w3 : ¬ tt_tok f tn fr2 = 8 := fun z => w (Or.inr (Or.inr z))
      rw [tt_cl_other w1 w2 w3]
      simp only [tt_take, a0, a1, a2, a5, a3, a40, w1, w2, if_false]
      split
      · rename_i g
        simp [tt_tM, a6 g]
      split
      · simp [tt_tC, e1]
      · rfl
  · exact Or.inr h
/-! the loop of a sequence -/
def tm_SQ (f : Nat → Int32) (tn j : Nat) (r : Nat → Nat → Int32) (n : Nat) (pa : Int32) (dp : Nat) (du : Int32) (mc1 : Nat) (tk1 : Int32) (fr1 tj1 : Nat) (q1 : Nat → Nat → Int32) : Prop :=
  ∃ (j1 : Nat) (r1 : Nat → Nat → Int32) (op1 dp1 du1 : Int32), tt_R f tn j (r, n, pa, nI dp, du) j1 (r1, mc1, op1, dp1, du1) ∧ tt_bl f tn false j < j1 ∧ n < mc1 ∧ mc1 ≤ 4096 ∧ tt_Q q1 r1 mc1 ∧ tt_E r r1 n ∧ tm_sc f tn j1 tk1 fr1 tj1 ∧ r1 0 n = 3 ∧ r1 1 n = pa ∧ ((op1 = nI n ∧ dp1 = nI (dp + 1) ∧ du1 = 0) ∨ (tk1 = 125 ∧ tt_clIt 125 (r1, mc1, op1, dp1, du1) = (r1, mc1, nI n, nI (dp + 1), 1)))
theorem tm_E_trans {r r1 r2 : Nat → Nat → Int32} {n n1 : Nat} (h1 : tt_E r r1 n) (h2 : tt_E r1 r2 n1) (h : n ≤ n1) : tt_E r r2 n := fun t ht => by
  have a := h1 t ht
  have b := h2 t (by omega)
  exact ⟨b.1.trans a.1, b.2.trans a.2⟩
theorem tm_sc_next {f : Nat → Int32} {tn j : Nat} (h : j ≤ tn) : tm_sc f tn j (tm_tok f tn (tt_bl f tn false j)) (tt_bl f tn false j) (tm_to f tn (tt_bl f tn false j)) := ⟨h, rfl, rfl, rfl⟩
theorem tm_bl_mono {f : Nat → Int32} {tn j j' : Nat} (h : j' ≤ tn) (h2 : tt_bl f tn false j < j') : tt_bl f tn false j < tt_bl f tn false j' := Nat.lt_of_lt_of_le h2 (tt_bl_n h).1
theorem tm_tAf {f : Nat → Int32} {tn n : Nat} {k dp : Int32} {fr tj : Nat} {dg : Nat → Nat} {t : Int32} (hn : n ≤ 4096) (h : tm_tA f tn n k dp fr tj dg = t) (hc : ¬ 0 ≤ t) : tm_tOK f tn n k dp fr tj dg = false := by
  have := tm_tA0 hn h (tt_ltz hc)
  cases hb : tm_tOK f tn n k dp fr tj dg with
  | true => rw [hb] at this; exact absurd this (by decide)
  | false => rfl
theorem tm_tAt {f : Nat → Int32} {tn n : Nat} {k dp : Int32} {fr tj : Nat} {dg : Nat → Nat} {t : Int32} (h : tm_tA f tn n k dp fr tj dg = t) (hc : 0 ≤ t) : tm_tOK f tn n k dp fr tj dg = true := by
  have := tm_tA1 h (tt_nltz hc)
  cases hb : tm_tOK f tn n k dp fr tj dg with
  | true => rfl
  | false => rw [hb] at this; exact absurd this (by decide)
/-- behind { -/
theorem tm_SQ_0 {f : Nat → Int32} {tn j : Nat} {r q : Nat → Nat → Int32} {n : Nat} {pa du : Int32} {dp fr tj : Nat} (h1 : tj ≤ tn) (h2 : tt_bl f tn false j < tj) (h3 : tt_R f tn j (r, n, pa, nI dp, du) tj (tt_add r n 3 pa fr tj, n + 1, nI n, nI dp + 1, 0) ∧ n + 1 ≤ 4096 ∧ tt_Q (tm_new q n 3 pa fr tj) (tt_add r n 3 pa fr tj) (n + 1) ∧ tt_E r (tt_add r n 3 pa fr tj) n ∧ tt_add r n 3 pa fr tj 0 n = 3 ∧ tt_add r n 3 pa fr tj 1 n = pa) : tm_SQ f tn j r n pa dp du (n + 1) (tm_tok f tn (tt_bl f tn false tj)) (tt_bl f tn false tj) (tm_to f tn (tt_bl f tn false tj)) (tm_new q n 3 pa fr tj) :=
  ⟨tj, _, nI n, nI dp + 1, 0, h3.1, h2, by omega, h3.2.1, h3.2.2.1, h3.2.2.2.1, tm_sc_next h1, h3.2.2.2.2.1, h3.2.2.2.2.2, Or.inl ⟨rfl, nI_1 dp, rfl⟩⟩
