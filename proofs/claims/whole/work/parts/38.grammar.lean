/-! Steps of the class for a sequence and an application, beside the reference's. -/
theorem tm_cls {f : Nat → Int32} {tn j : Nat} {tk : Int32} {fr tj : Nat} (hs : tm_sc f tn j tk fr tj) {T : Int32} (hT : tt_tok f tn (tt_bl f tn false j) = T) (h7 : ¬ T = 7) (h8 : ¬ T = 8) : tj = tt_to f tn (tt_bl f tn false j) ∧ tj ≤ tn ∧ tt_bl f tn false j < tj ∧ fr = tt_bl f tn false j := by
  obtain ⟨hj, hfr, htk, htj⟩ := hs
  subst hfr
  have e7 : ¬ tt_tok f tn (tt_bl f tn false j) = 7 := by rw [hT]; exact h7
  have e8 : ¬ tt_tok f tn (tt_bl f tn false j) = 8 := by rw [hT]; exact h8
  have hto : tj = tt_to f tn (tt_bl f tn false j) := by rw [htj]; exact (tm_tok_eq f tn _).2 e7
  have hrg := tt_to_rng e7 e8
  have hb := tt_bl_n (f := f) hj
  exact ⟨hto, by omega, by omega, rfl⟩
/-- a step that is taken, from what the class takes at the token T -/
theorem tm_go {f : Nat → Int32} {tn j : Nat} {tk : Int32} {fr tj : Nat} {σ σ1 σ2 : tt_S} (hs : tm_sc f tn j tk fr tj) {T : Int32} (hT : tt_tok f tn (tt_bl f tn false j) = T) (h7 : ¬ T = 7) (h8 : ¬ T = 8) (hc : tt_clIt T σ = σ1) (ht : tt_take' f tn T fr tj σ1 = (true, σ2)) : tt_R f tn j σ tj σ2 ∧ tj ≤ tn ∧ tt_bl f tn false j < tj := by
  obtain ⟨a, b, c, d⟩ := tm_cls hs hT h7 h8
  have := tt_R.step (f := f) (n := tn) (j := j) (σ := σ) (σ2 := σ2) hs.1 (by rw [hT]; exact h8) (by rw [hT, hc, ← a, ← d]; exact ht)
  rw [← a] at this
  exact ⟨this.1, b, c⟩
theorem tm_no {f : Nat → Int32} {tn j : Nat} {tk : Int32} {fr tj : Nat} {σ : tt_S} (hs : tm_sc f tn j tk fr tj) (h8 : tt_tok f tn fr = 8 → ¬ ((tt_clIt 8 σ).2.2.1 = -1 ∧ (tt_clIt 8 σ).2.2.2.2 = 1)) (ht : ∀ (b : Bool) (i k : Nat), ¬ tt_tok f tn fr = 8 → (tt_take b (tt_tok f tn fr) i k (tt_clIt (tt_tok f tn fr) σ)).1 = false) : tt_F f tn j σ fr := by
  obtain ⟨hj, hfr, -, -⟩ := hs
  subst hfr
  exact tt_F.step hj h8 (fun z => ht _ _ _ z)
theorem tm_open {f : Nat → Int32} {tn n j : Nat} {q r : Nat → Nat → Int32} {pa dp du tk k d' : Int32} {fr tj : Nat} {dg : Nat → Nat} (hQ : tt_Q q r n) (hn : n ≤ 4096) (hs : tm_sc f tn j tk fr tj) (hk : (k = 3 ∧ tk = 123 ∧ d' = 0 ∧ (du = 0 ∨ tt_ia du = true)) ∨ (k = 4 ∧ tk = 4 ∧ d' = 3 ∧ (du = 0 ∨ du = 2))) :
    tj ≤ tn ∧ tt_bl f tn false j < tj ∧ (tm_tOK f tn n k dp fr tj dg = true → tt_R f tn j (r, n, pa, dp, du) tj (tt_add r n k pa fr tj, n + 1, nI n, dp + 1, d') ∧ n + 1 ≤ 4096 ∧ tt_Q (tm_new q n k pa fr tj) (tt_add r n k pa fr tj) (n + 1) ∧ tt_E r (tt_add r n k pa fr tj) n ∧ tt_add r n k pa fr tj 0 n = k ∧ tt_add r n k pa fr tj 1 n = pa) ∧ (tm_tOK f tn n k dp fr tj dg = false → tt_F f tn j (r, n, pa, dp, du) fr) := by
  have hs' := hs
  obtain ⟨hj, hfr, htk, htj⟩ := hs'
  obtain ⟨T, hT, h7, h8, h59, h125, htake⟩ : ∃ T, tt_tok f tn (tt_bl f tn false j) = T ∧ ¬ T = 7 ∧ ¬ T = 8 ∧ ¬ T = 59 ∧ ¬ T = 125 ∧ ∀ (b : Bool) (i z : Nat), tt_take b T i z (r, n, pa, dp, du) = tt_op k d' i z (r, n, pa, dp, du) := by
    rw [hfr] at htk
    rcases hk with ⟨h1, h2, h3, h4⟩ | ⟨h1, h2, h3, h4⟩
    · refine ⟨123, tm_inv (by rw [← htk]; exact h2) (by decide) (by decide), by decide, by decide, by decide, by decide, fun b i z => ?_⟩
      subst h1 h3
      simp only [tt_take, tt_tQ]
      rw [if_pos h4]
      rfl
    · refine ⟨5, tm_inv4 (by rw [← htk]; exact h2), by decide, by decide, by decide, by decide, fun b i z => ?_⟩
      subst h1 h3
      simp only [tt_take, tt_tW]
      have hia : ¬ tt_ia du = true := by
        rcases h4 with w | w <;> subst w <;> decide
      rw [if_neg hia, if_pos h4]
      rfl
  have hk0 : ¬ k = 0 := by rcases hk with ⟨h, -⟩ | ⟨h, -⟩ <;> rw [h] <;> decide
  have hok : tm_tOK f tn n k dp fr tj dg = (!decide (n = 4096) && !decide (60 ≤ dp)) := by
    unfold tm_tOK
    simp [hk0]
  have hA := tm_aT (f := f) (tn := tn) (n := n) (k := k) (pa := pa) (dp := dp) (du := du) (i := fr) (j := tj) (r := r) hn rfl
  have hcl : tt_clIt T (r, n, pa, dp, du) = (r, n, pa, dp, du) := tt_cl_other h59 h125 h8
  have hc := tm_cls hs hT h7 h8
  refine ⟨hc.2.1, hc.2.2.1, fun hb => ?_, fun hb => ?_⟩
  · rw [hok] at hb
    obtain ⟨a1, a2, a3, a4⟩ := hA.1 hb
    have hQ2 := tt_Q_new (q := q) (r := r) (n := n) (k := k) (pa := pa) (i := fr) (j := tj) hQ (tm_small (by rcases hk with ⟨h, -⟩ | ⟨h, -⟩ <;> simp [h])) (by omega)
    have ht : tt_take' f tn T fr tj (r, n, pa, dp, du) = (true, (tt_add r n k pa fr tj, n + 1, nI n, dp + 1, d')) := by
      unfold tt_take'
      rw [htake]
      unfold tt_op
      rw [a1, if_neg a2, a3]
    exact ⟨(tm_go hs hT h7 h8 hcl ht).1, a4, hQ2.1, hQ2.2.1, hQ2.2.2.1, hQ2.2.2.2⟩
  · rw [hok] at hb
    refine tm_no hs (fun z => ?_) (fun b i z _ => ?_)
    · rw [hfr, hT] at z
      exact absurd z h8
    · rw [hfr, hT, hcl, htake]
      unfold tt_op
      rw [(tm_aT (f := f) (tn := tn) (n := n) (k := k) (pa := pa) (dp := dp) (du := du) (i := i) (j := z) (r := r) hn rfl).2 hb, if_pos rfl]
/-- behind an item of pa, before the token tok -/
def tm_AI (pa dp tok : Int32) (σ : tt_S) : Prop := ((tok = 59 ∨ tok = 125 ∨ tok = 8) → tt_clIt tok σ = (σ.1, σ.2.1, pa, dp, 1)) ∧ (¬ (tok = 59 ∨ tok = 125 ∨ tok = 8) → ∀ (b : Bool) (i k : Nat), (tt_take b tok i k (tt_clIt tok σ)).1 = false)
def tm_PI (f : Nat → Int32) (tn j : Nat) (r : Nat → Nat → Int32) (n : Nat) (pa dp du : Int32) (b : Bool) (mc2 : Nat) (pl2 tk2 : Int32) (fr2 tj2 : Nat) (q2 : Nat → Nat → Int32) : Prop :=
  (b = true ∧ ∃ (j' : Nat) (r' : Nat → Nat → Int32) (op' dp' du' : Int32), tt_R f tn j (r, n, pa, dp, du) j' (r', mc2, op', dp', du') ∧ tt_bl f tn false j < j' ∧ n ≤ mc2 ∧ mc2 ≤ 4096 ∧ tt_Q q2 r' mc2 ∧ tt_E r r' n ∧ tm_sc f tn j' tk2 fr2 tj2 ∧ tm_AI pa dp (tt_tok f tn fr2) (r', mc2, op', dp', du')) ∨ (b = false ∧ ∃ p, pl2 = nI p ∧ tt_F f tn j (r, n, pa, dp, du) p)
/-- a state in which an item has just ended takes nothing but ; } and the end -/
theorem tm_AI1 {pa dp tok : Int32} {r : Nat → Nat → Int32} {n : Nat} : tm_AI pa dp tok (r, n, pa, dp, 1) := by
  have hc : tt_clIt tok (r, n, pa, dp, 1) = (r, n, pa, dp, 1) := by
    simp [tt_clIt, tt_ia]
  refine ⟨fun _ => hc, fun h b i k => ?_⟩
  rw [hc]
  have h1 : ¬ tok = 59 := fun z => h (Or.inl z)
  have h2 : ¬ tok = 125 := fun z => h (Or.inr (Or.inl z))
  simp only [tt_take, h1, h2, if_false]
  repeat' split
  all_goals first | rfl | simp [tt_lf, tt_ia] | simp [tt_tW, tt_ia] | simp [tt_tM] | simp [tt_tO, tt_ia] | simp [tt_tC, tt_ia] | simp [tt_tQ, tt_ia]
theorem tm_AI_of {pa dp tok : Int32} {r : Nat → Nat → Int32} {n : Nat} (h : ¬ tt_in (r 0) n pa = 4) : tm_AI pa dp tok (r, n, pa, dp, tt_db r n pa) := by
  have e : tt_db r n pa = 1 := by unfold tt_db; rw [if_neg h]
  rw [e]
  exact tm_AI1
/-- a term of a place that is no application is an item there -/
theorem tm_PT_PI {f : Nat → Int32} {tn j : Nat} {r : Nat → Nat → Int32} {n : Nat} {pa dp du : Int32} {b : Bool} {mc2 : Nat} {pl2 tk2 : Int32} {fr2 tj2 : Nat} {q2 : Nat → Nat → Int32} (h : tm_PT f tn j r n pa dp du b mc2 pl2 tk2 fr2 tj2 q2) (hp : ∀ r', tt_E r r' n → n ≤ mc2 → ¬ tt_in (r' 0) mc2 pa = 4) : tm_PI f tn j r n pa dp du b mc2 pl2 tk2 fr2 tj2 q2 := by
  rcases h with ⟨hb, j', r', h1, h2, h3, h4, h5, h6, h7⟩ | h
  · exact Or.inl ⟨hb, j', r', pa, dp, tt_db r' mc2 pa, h1, h2, h3, h4, h5, h6, h7, tm_AI_of (hp r' h6 h3)⟩
  · exact Or.inr h
theorem tm_nI1 {n : Nat} (h : n ≤ 4096) : ¬ nI n = -1 := by
  intro z
  have := nI_pos (n := n) (by omega)
  rw [z] at this
  exact this (by decide)
theorem tm_dec (d : Nat) : nI (d + 1) - 1 = nI d := nI_pred d
theorem tm_E_set {r r' : Nat → Nat → Int32} {n k t : Nat} {v : Int32} (h : tt_E r r' n) (hk : ¬ k = 0 ∧ ¬ k = 1) : tt_E r (tt_set r' k t v) n := fun z hz => by
  rw [tt_set_get, tt_set_get, if_neg (fun w => hk.1 w.1.symm), if_neg (fun w => hk.2 w.1.symm)]
  exact h z hz
theorem tm_Q_end {q r : Nat → Nat → Int32} {n t : Nat} {v : Int32} (h : tt_Q q r n) : tt_Q (tt_set q 3 t v) (tt_set r 5 t v) n := fun z hz => by
  have := h z hz
  simp only [tt_set_get]
  by_cases e : z = t
  · subst e
    simp at this ⊢
    exact ⟨this.1, this.2.1, this.2.2.1, this.2.2.2.2⟩
  · simpa [e] using this
/-- } behind the items of the sequence t -/
theorem tm_seq_close {f : Nat → Int32} {tn j1 t n1 dp : Nat} {q1 r1 : Nat → Nat → Int32} {op1 dp1 du1 pa tk : Int32} {fr tj : Nat} (hs : tm_sc f tn j1 tk fr tj) (hk : tk = 125) (hn : n1 ≤ 4096) (ht : t < n1) (hp : r1 1 t = pa) (hQ : tt_Q q1 r1 n1) (hst : (op1 = nI t ∧ dp1 = nI (dp + 1) ∧ du1 = 0) ∨ tt_clIt 125 (r1, n1, op1, dp1, du1) = (r1, n1, nI t, nI (dp + 1), 1)) :
    tj ≤ tn ∧ tt_bl f tn false j1 < tj ∧ tt_R f tn j1 (r1, n1, op1, dp1, du1) tj (tt_set r1 5 t (nI tj), n1, pa, nI dp, tt_db (tt_set r1 5 t (nI tj)) n1 pa) ∧ tt_Q (tt_set q1 3 t (nI tj)) (tt_set r1 5 t (nI tj)) n1 := by
  have hs' := hs
  obtain ⟨hj, hfr, htk, htj⟩ := hs'
  rw [hfr] at htk
  have hT : tt_tok f tn (tt_bl f tn false j1) = 125 := tm_inv (by rw [← htk]; exact hk) (by decide) (by decide)
  obtain ⟨du', hdu, hcl⟩ : ∃ du', (du' = 0 ∨ du' = 1) ∧ tt_clIt 125 (r1, n1, op1, dp1, du1) = (r1, n1, nI t, nI (dp + 1), du') := by
    rcases hst with ⟨h1, h2, h3⟩ | h
    · subst h1 h2 h3
      exact ⟨0, Or.inl rfl, by simp [tt_clIt, tt_ia]⟩
    · exact ⟨1, Or.inr rfl, h⟩
  have hhas : tt_has n1 (nI t) = true := by
    simp only [tt_has, Bool.and_eq_true, Bool.not_eq_true', decide_eq_false_iff_not]
    exact ⟨nI_pos (by omega), nI_ge ht (by omega)⟩
  have htake : tt_take' f tn 125 fr tj (r1, n1, nI t, nI (dp + 1), du') = (true, (tt_set r1 5 t (nI tj), n1, pa, nI dp, tt_db (tt_set r1 5 t (nI tj)) n1 pa)) := by
    have e1 : ¬ (nI t = -1 ∨ (¬ du' = 0 ∧ ¬ du' = 1)) := fun z => by
      rcases z with z | z
      · exact tm_nI1 (by omega) z
      · rcases hdu with w | w
        · exact z.1 w
        · exact z.2 w
    have e2 : tt_endR r1 n1 (nI t) tj = tt_set r1 5 t (nI tj) := by
      unfold tt_endR
      rw [if_pos hhas, nI_clamp (by omega)]
    have e3 : tt_in (tt_set r1 5 t (nI tj) 1) n1 (nI t) = pa := by
      rw [tt_in_at ht hn, tt_set_get, if_neg (by simp)]
      exact hp
    simp only [tt_take', tt_take, tt_tE, e1, if_false, e2, tt_close, e3, tm_dec]
    simp
  have := tm_go (σ := (r1, n1, op1, dp1, du1)) hs hT (by decide) (by decide) hcl htake
  exact ⟨this.2.1, this.2.2, this.1, tm_Q_end hQ⟩
/-- ; behind an item of the sequence t -/
theorem tm_seq_semi {f : Nat → Int32} {tn j1 t n1 dp : Nat} {r1 : Nat → Nat → Int32} {op1 dp1 du1 tk : Int32} {fr tj : Nat} (hs : tm_sc f tn j1 tk fr tj) (hk : tk = 59) (hn : t ≤ 4096) (hA : tm_AI (nI t) (nI (dp + 1)) (tt_tok f tn fr) (r1, n1, op1, dp1, du1)) : tj ≤ tn ∧ tt_bl f tn false j1 < tj ∧ tt_R f tn j1 (r1, n1, op1, dp1, du1) tj (r1, n1, nI t, nI (dp + 1), 0) := by
  have hs' := hs
  obtain ⟨hj, hfr, htk, htj⟩ := hs'
  rw [hfr] at htk hA
  have hT : tt_tok f tn (tt_bl f tn false j1) = 59 := tm_inv (by rw [← htk]; exact hk) (by decide) (by decide)
  rw [hT] at hA
  have hcl := hA.1 (Or.inl rfl)
  have htake : tt_take' f tn 59 fr tj (r1, n1, nI t, nI (dp + 1), 1) = (true, (r1, n1, nI t, nI (dp + 1), 0)) := by
    have e1 : ¬ nI t = -1 := tm_nI1 hn
    simp [tt_take', tt_take, tt_tS, e1]
  have := tm_go (σ := (r1, n1, op1, dp1, du1)) hs hT (by decide) (by decide) hcl htake
  exact ⟨this.2.1, this.2.2, this.1⟩
theorem tm_seq_rb {f : Nat → Int32} {tn j1 t n1 dp : Nat} {r1 : Nat → Nat → Int32} {op1 dp1 du1 tk : Int32} {fr tj : Nat} (hs : tm_sc f tn j1 tk fr tj) (hk : tk = 125) (hA : tm_AI (nI t) (nI (dp + 1)) (tt_tok f tn fr) (r1, n1, op1, dp1, du1)) : tt_clIt 125 (r1, n1, op1, dp1, du1) = (r1, n1, nI t, nI (dp + 1), 1) := by
  obtain ⟨hj, hfr, htk, htj⟩ := hs
  have hT : tt_tok f tn fr = 125 := tm_inv (by rw [← htk]; exact hk) (by decide) (by decide)
  rw [hT] at hA
  exact hA.1 (Or.inr (Or.inl rfl))
/-- another token behind an item of a sequence, or of the text: it is refused there -/
theorem tm_seq_bad {f : Nat → Int32} {tn j1 : Nat} {r1 : Nat → Nat → Int32} {n1 : Nat} {pa dp op1 dp1 du1 tk : Int32} {fr tj : Nat} (hs : tm_sc f tn j1 tk fr tj) (h1 : ¬ tk = 59) (h2 : ¬ tk = 125) (hpa : ¬ pa = -1 ∨ ¬ tk = 5) (hA : tm_AI pa dp (tt_tok f tn fr) (r1, n1, op1, dp1, du1)) : tt_F f tn j1 (r1, n1, op1, dp1, du1) fr := by
  have hs' := hs
  obtain ⟨hj, hfr, htk, htj⟩ := hs'
  have e := (tm_tok_eq f tn fr).1
  rw [← htk] at e
  have n59 : ¬ tt_tok f tn fr = 59 := fun z => by rw [z] at e; exact h1 (by rw [e]; decide)
  have n125 : ¬ tt_tok f tn fr = 125 := fun z => by rw [z] at e; exact h2 (by rw [e]; decide)
  refine tm_no hs (fun z => ?_) (fun b i k z => ?_)
  · rw [z] at hA e
    rw [hA.1 (Or.inr (Or.inr rfl))]
    rintro ⟨w1, -⟩
    rcases hpa with w | w
    · exact w w1
    · exact w (by rw [e]; decide)
  · exact hA.2 (by rintro (w | w | w) <;> contradiction) b i k
