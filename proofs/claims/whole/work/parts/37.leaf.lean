/-- the reference stands before the token behind j, which is scanned -/
def tm_sc (f : Nat → Int32) (tn j : Nat) (tk : Int32) (fr tj : Nat) : Prop := j ≤ tn ∧ fr = tt_bl f tn false j ∧ tk = tm_tok f tn fr ∧ tj = tm_to f tn fr
/-- behind a term that stands in pa: it was read, or refused -/
def tm_PT (f : Nat → Int32) (tn j : Nat) (r : Nat → Nat → Int32) (n : Nat) (pa dp du : Int32) (b : Bool) (mc2 : Nat) (pl2 tk2 : Int32) (fr2 tj2 : Nat) (q2 : Nat → Nat → Int32) : Prop :=
  (b = true ∧ ∃ (j' : Nat) (r' : Nat → Nat → Int32), tt_R f tn j (r, n, pa, dp, du) j' (r', mc2, pa, dp, tt_db r' mc2 pa) ∧ tt_bl f tn false j < j' ∧ n ≤ mc2 ∧ mc2 ≤ 4096 ∧ tt_Q q2 r' mc2 ∧ tt_E r r' n ∧ tm_sc f tn j' tk2 fr2 tj2) ∨ (b = false ∧ ∃ p, pl2 = nI p ∧ tt_F f tn j (r, n, pa, dp, du) p)
theorem tm_inv {f : Nat → Int32} {n i : Nat} {c : Int32} (h : tm_tok f n i = c) (h4 : ¬ c = 4) (h5 : ¬ c = 5) : tt_tok f n i = c := by
  have e := (tm_tok_eq f n i).1
  rw [h, tm_map] at e
  split at e
  · exact absurd e h4
  · split at e
    · exact absurd e h5
    · exact e.symm
theorem tm_inv4 {f : Nat → Int32} {n i : Nat} (h : tm_tok f n i = 4) : tt_tok f n i = 5 := by
  have e := (tm_tok_eq f n i).1
  rw [h, tm_map] at e
  split at e
  · assumption
  · split at e
    · exact absurd e (by decide)
    · rcases tt_tok_set f n i with z | z | z | z | z | z | z | z | z | z | z | z <;> rw [z] at e <;> exact absurd e (by decide)
theorem tm_inv5 {f : Nat → Int32} {n i : Nat} (h : tm_tok f n i = 5) : tt_tok f n i = 8 := by
  have e := (tm_tok_eq f n i).1
  rw [h, tm_map] at e
  split at e
  · exact absurd e (by decide)
  · split at e
    · assumption
    · rename_i h5 h8
      exact absurd e.symm h5
theorem tt_numdig {f : Nat → Int32} {n i : Nat} (h : tt_tok f n i = 0) : i < tt_to f n i ∧ tt_to f n i ≤ n ∧ ∀ z, tm_st0 f n i ≤ z → z < tt_to f n i → tt_dig (tt_ch f n z) = true := by
  have hr := tt_to_rng (f := f) (n := n) (i := i) (by rw [h]; decide) (by rw [h]; decide)
  refine ⟨hr.1, hr.2, fun z h1 h2 => ?_⟩
  unfold tt_tok at h
  unfold tt_to at h2
  by_cases c1 : tt_ch f n i = -1
  · rw [if_pos c1] at h
    exact absurd h (by decide)
  rw [if_neg c1] at h h2
  by_cases c2 : tt_let (tt_ch f n i) = true
  · rw [if_pos c2] at h
    exact absurd h (by decide)
  rw [if_neg c2] at h h2
  by_cases c3 : tt_ch f n i = 48 ∧ tt_ch f n (i + 1) = 120
  · rw [if_pos c3] at h
    split at h <;> exact absurd h (by decide)
  rw [if_neg c3] at h h2
  by_cases c4 : tt_ch f n i = 45 ∨ tt_dig (tt_ch f n i) = true
  · rw [if_pos c4] at h h2
    rcases Nat.lt_or_ge i z with q | q
    · exact (tt_sw_mem (P := fun j => tt_dig (tt_ch f n j)) _ (i + 1) z (Nat.le_refl _) q h2).2
    · unfold tm_st0 at h1
      by_cases m1 : tt_ch f n i = 45
      · rw [if_pos m1] at h1
        omega
      · rw [if_neg m1] at h1
        rw [show z = i by omega]
        rcases c4 with w | w
        · exact absurd w m1
        · exact w
  rw [if_neg c4] at h
  by_cases c5 : tt_ch f n i = 34
  · rw [if_pos c5] at h
    split at h <;> exact absurd h (by decide)
  rw [if_neg c5] at h
  by_cases c6 : tt_ch f n i = 37
  · rw [if_pos c6] at h
    split at h <;> exact absurd h (by decide)
  rw [if_neg c6] at h
  split at h
  · rename_i g
    rw [h] at g
    exact absurd g (by decide)
  · exact absurd h (by decide)
/-- what term() does, on the class's side -/
theorem tm_aT {f : Nat → Int32} {tn n : Nat} {k pa dp du : Int32} {i j : Nat} {r : Nat → Nat → Int32} {ok : Bool} (hn : n ≤ 4096) (hok : ok = (!decide (n = 4096) && !decide (60 ≤ dp))) : (ok = true → tt_aT k i j (r, n, pa, dp, du) = nI n ∧ ¬ nI n = -1 ∧ tt_aS k i j (r, n, pa, dp, du) = (tt_add r n k pa i j, n + 1, pa, dp, du) ∧ n + 1 ≤ 4096) ∧ (ok = false → tt_aT k i j (r, n, pa, dp, du) = -1) := by
  have hlt : ¬ dp < 60 ↔ 60 ≤ dp := by
    rw [Int32.lt_iff_toInt_lt, Int32.le_iff_toInt_le]
    omega
  constructor
  · intro h
    rw [hok, Bool.and_eq_true, Bool.not_eq_true', Bool.not_eq_true', decide_eq_false_iff_not, decide_eq_false_iff_not] at h
    have h1 : ¬ ¬ dp < 60 := fun z => h.2 (hlt.mp z)
    unfold tt_aT tt_aS tt_addr tt_addn
    have h2 : ¬ 4096 ≤ n := by omega
    refine ⟨?_, ?_, ?_, by omega⟩
    · dsimp only
      rw [if_neg h1, if_neg h2]
    · intro z
      have := nI_pos (n := n) (by omega)
      rw [z] at this
      exact this (by decide)
    · dsimp only
      rw [if_neg h1, if_neg h2]
  · intro h
    rw [hok, Bool.and_eq_false_iff, Bool.not_eq_false', Bool.not_eq_false', decide_eq_true_eq, decide_eq_true_eq] at h
    unfold tt_aT tt_addr
    dsimp only
    rcases h with h | h
    · rw [if_pos (show 4096 ≤ n by omega)]
      split <;> rfl
    · rw [if_pos (hlt.mpr h)]
theorem tm_small {k : Int32} (h : k = 0 ∨ k = 1 ∨ k = 2 ∨ k = 3 ∨ k = 4) : k.toInt8.toInt32 = k := by
  rcases h with h | h | h | h | h <;> subst h <;> decide
/-- leaf(): what the reference does is a step of the class -/
theorem tm_leaf_ok {f : Nat → Int32} {tn n j : Nat} {q r : Nat → Nat → Int32} {pa dp du tk pl : Int32} {fr tj : Nat} {dg : Nat → Nat} (hQ : tt_Q q r n) (hn : n ≤ 4096) (hs : tm_sc f tn j tk fr tj) (hl : tk = 0 ∨ tk = 1 ∨ tk = 2 ∨ (tk = 4 ∧ tt_ia du = true)) (hdu : du = 0 ∨ tt_ia du = true) (hNB : ∀ i, tt_tok f tn i = 0 → tm_num f tn i (tt_to f tn i) dg = !tt_big f tn i (tt_to f tn i)) :
    tj ≤ tn ∧ (tk = 0 → fr < tj ∧ tj ≤ tn ∧ ∀ z, tm_st0 f tn fr ≤ z → z < tj → tt_dig (tt_ch f tn z) = true) ∧ tm_PT f tn j r n pa dp du (tm_tOK f tn n tk dp fr tj dg) (tm_tN f tn n tk dp fr tj dg) (tm_tP f tn n tk dp fr tj dg pl) (tm_tok f tn (tt_bl f tn false tj)) (tt_bl f tn false tj) (tm_to f tn (tt_bl f tn false tj)) (tm_tQ f tn n tk dp fr tj dg q pa) := by
  obtain ⟨hj, hfr, htk, htj⟩ := hs
  subst hfr
  -- the class's token
  obtain ⟨T, hT, hT1⟩ : ∃ T, tt_tok f tn (tt_bl f tn false j) = T ∧ (T = tk ∨ (T = 5 ∧ tk = 4)) ∧ ¬ T = 7 ∧ ¬ T = 8 ∧ ¬ T = 59 ∧ ¬ T = 125 := by
    rcases hl with h | h | h | ⟨h, -⟩
    · exact ⟨0, tm_inv (by rw [← htk]; exact h) (by decide) (by decide), Or.inl h.symm, by decide, by decide, by decide, by decide⟩
    · exact ⟨1, tm_inv (by rw [← htk]; exact h) (by decide) (by decide), Or.inl h.symm, by decide, by decide, by decide, by decide⟩
    · exact ⟨2, tm_inv (by rw [← htk]; exact h) (by decide) (by decide), Or.inl h.symm, by decide, by decide, by decide, by decide⟩
    · exact ⟨5, tm_inv4 (by rw [← htk]; exact h), Or.inr ⟨rfl, h⟩, by decide, by decide, by decide, by decide⟩
  obtain ⟨hTk, h7, h8, h59, h125⟩ := hT1
  have e7 : ¬ tt_tok f tn (tt_bl f tn false j) = 7 := by rw [hT]; exact h7
  have e8 : ¬ tt_tok f tn (tt_bl f tn false j) = 8 := by rw [hT]; exact h8
  have hto : tj = tt_to f tn (tt_bl f tn false j) := by rw [htj]; exact (tm_tok_eq f tn _).2 e7
  have hrg := tt_to_rng e7 e8
  have hcl : ∀ σ : tt_S, tt_clIt T σ = σ := fun σ => tt_cl_other h59 h125 h8
  have hd2 : ¬ (¬ du = 0 ∧ tt_ia du = false) := fun z => by
    rcases hdu with w | w
    · exact z.1 w
    · rw [w] at z; exact absurd z.2 (by decide)
  -- what the class takes
  have htake : tt_take' f tn T (tt_bl f tn false j) tj (r, n, pa, dp, du) = if tk = 0 ∧ tt_big f tn (tt_bl f tn false j) tj = true then (false, (r, n, pa, dp, du)) else tt_lf tk (tt_bl f tn false j) tj (r, n, pa, dp, du) := by
    unfold tt_take' tt_take
    rcases hl with h | h | h | ⟨h, hia⟩
    · subst h
      have : T = 0 := by
        rcases hTk with w | w
        · exact w
        · exact absurd w.2 (by decide)
      subst this
      simp
    · subst h
      have : T = 1 := by
        rcases hTk with w | w
        · exact w
        · exact absurd w.2 (by decide)
      subst this
      simp
    · subst h
      have : T = 2 := by
        rcases hTk with w | w
        · exact w
        · exact absurd w.2 (by decide)
      subst this
      simp
    · subst h
      have : T = 5 := by
        rcases hTk with w | w
        · rw [w] at hT
          rcases tt_tok_set f tn (tt_bl f tn false j) with z | z | z | z | z | z | z | z | z | z | z | z <;> rw [z] at hT <;> exact absurd hT (by decide)
        · exact w.1
      subst this
      simp [tt_tW, hia]
  have hlf : tt_lf tk (tt_bl f tn false j) tj (r, n, pa, dp, du) = if tt_aT tk (tt_bl f tn false j) tj (r, n, pa, dp, du) = -1 then (false, tt_aS tk (tt_bl f tn false j) tj (r, n, pa, dp, du)) else (true, ((tt_aS tk (tt_bl f tn false j) tj (r, n, pa, dp, du)).1, (tt_aS tk (tt_bl f tn false j) tj (r, n, pa, dp, du)).2.1, pa, dp, tt_db (tt_aS tk (tt_bl f tn false j) tj (r, n, pa, dp, du)).1 (tt_aS tk (tt_bl f tn false j) tj (r, n, pa, dp, du)).2.1 pa)) := by
    unfold tt_lf
    rw [if_neg hd2]
  have hA := tm_aT (f := f) (tn := tn) (n := n) (k := tk) (pa := pa) (dp := dp) (du := du) (i := tt_bl f tn false j) (j := tj) (r := r) hn rfl
  have hbg : tk = 0 → tm_num f tn (tt_bl f tn false j) tj dg = !tt_big f tn (tt_bl f tn false j) tj := fun z => by
    rw [hto]
    refine hNB _ ?_
    rcases hTk with w | w
    · rw [hT, w, z]
    · rw [z] at w; exact absurd w.2 (by decide)
  have hok : tm_tOK f tn n tk dp (tt_bl f tn false j) tj dg = ((!decide (n = 4096) && !decide (60 ≤ dp)) && (!decide (tk = 0) || !tt_big f tn (tt_bl f tn false j) tj)) := by
    unfold tm_tOK
    by_cases z : tk = 0
    · rw [hbg z]
    · simp [z]
  refine ⟨by rw [hto]; exact hrg.2, fun z => ?_, ?_⟩
  · have h0 : tt_tok f tn (tt_bl f tn false j) = 0 := by
      rcases hTk with w | w
      · rw [hT, w, z]
      · rw [z] at w; exact absurd w.2 (by decide)
    rw [hto]
    exact tt_numdig h0
  · cases hb : tm_tOK f tn n tk dp (tt_bl f tn false j) tj dg with
    | true =>
      have hb0 := hb
      rw [hok, Bool.and_eq_true] at hb0
      obtain ⟨a1, a2, a3, a4⟩ := hA.1 hb0.1
      have hnb : ¬ (tk = 0 ∧ tt_big f tn (tt_bl f tn false j) tj = true) := fun z => by
        have := hb0.2
        rw [z.2] at this
        simp [z.1] at this
      rw [if_neg hnb, hlf, a1, if_neg a2, a3] at htake
      have hsm : tk = 0 ∨ tk = 1 ∨ tk = 2 ∨ tk = 3 ∨ tk = 4 := by
        rcases hl with h | h | h | ⟨h, -⟩ <;> simp [h]
      have hQ2 := tt_Q_new (q := q) (r := r) (n := n) (k := tk) (pa := pa) (i := tt_bl f tn false j) (j := tj) hQ (tm_small hsm) (by omega)
      have hstep := tt_R.step (f := f) (n := tn) (j := j) (σ := (r, n, pa, dp, du)) hj e8 (by rw [hT, hcl, ← hto]; exact htake)
      rw [← hto] at hstep
      have eN : tm_tN f tn n tk dp (tt_bl f tn false j) tj dg = n + 1 := by unfold tm_tN; rw [if_pos hb]
      have eQ : tm_tQ f tn n tk dp (tt_bl f tn false j) tj dg q pa = tm_new q n tk pa (tt_bl f tn false j) tj := by unfold tm_tQ; rw [if_pos hb]
      rw [eN, eQ]
      exact Or.inl ⟨rfl, tj, tt_add r n tk pa (tt_bl f tn false j) tj, hstep.1, by rw [hto]; exact hrg.1, by omega, a4, hQ2.1, hQ2.2.1, hstep.2, rfl, rfl, rfl⟩
    | false =>
      have hb0 := hb
      rw [hok, Bool.and_eq_false_iff] at hb0
      refine Or.inr ⟨rfl, tt_bl f tn false j, by unfold tm_tP; rw [if_neg (by rw [hb]; decide)], ?_⟩
      refine tt_F.step hj (fun z => absurd z e8) (fun _ => ?_)
      rw [hT, hcl, ← hto, htake]
      split
      · rfl
      · rename_i hnb
        rcases hb0 with h | h
        · rw [hlf, if_pos (hA.2 h)]
        · rw [Bool.or_eq_false_iff, Bool.not_eq_false', Bool.not_eq_false', decide_eq_true_eq] at h
          exact absurd h hnb
theorem tm_tA0 {f : Nat → Int32} {tn n : Nat} {k dp : Int32} {fr tj : Nat} {dg : Nat → Nat} {t : Int32} (hn : n ≤ 4096) (h : tm_tA f tn n k dp fr tj dg = t) (hc : t < 0) : (0 : Int32) = tt_b (tm_tOK f tn n k dp fr tj dg) := by
  unfold tm_tA at h
  cases hb : tm_tOK f tn n k dp fr tj dg with
  | true =>
    rw [if_pos hb] at h
    rw [← h] at hc
    exact absurd hc (nI_pos (by omega))
  | false => rfl
theorem tm_tA1 {f : Nat → Int32} {tn n : Nat} {k dp : Int32} {fr tj : Nat} {dg : Nat → Nat} {t : Int32} (h : tm_tA f tn n k dp fr tj dg = t) (hc : ¬ t < 0) : (1 : Int32) = tt_b (tm_tOK f tn n k dp fr tj dg) := by
  unfold tm_tA at h
  cases hb : tm_tOK f tn n k dp fr tj dg with
  | true => rfl
  | false =>
    rw [if_neg (by rw [hb]; decide)] at h
    rw [← h] at hc
    exact absurd (by decide) hc
