/-! The loop of an application. -/
def tm_GA (f : Nat → Int32) (tn j : Nat) (r : Nat → Nat → Int32) (n : Nat) (pa : Int32) (dp : Nat) (du : Int32) (mc1 : Nat) (tk1 : Int32) (fr1 tj1 : Nat) (q1 : Nat → Nat → Int32) (j1 : Nat) (r1 : Nat → Nat → Int32) (du1 : Int32) : Prop :=
  tt_R f tn j (r, n, pa, nI dp, du) j1 (r1, mc1, nI n, nI (dp + 1), du1) ∧ tt_bl f tn false j < j1 ∧ n < mc1 ∧ mc1 ≤ 4096 ∧ tt_Q q1 r1 mc1 ∧ tt_E r r1 n ∧ tm_sc f tn j1 tk1 fr1 tj1 ∧ r1 0 n = 4 ∧ r1 1 n = pa ∧ tm_ap du1 ∧ (tk1 = 6 → ¬ du1 = 3)
def tm_AP (f : Nat → Int32) (tn j : Nat) (r : Nat → Nat → Int32) (n : Nat) (pa : Int32) (dp : Nat) (du : Int32) (gd mo : Bool) (mc1 : Nat) (pl1 tk1 : Int32) (fr1 tj1 : Nat) (q1 : Nat → Nat → Int32) : Prop :=
  (gd = true ∧ ∃ (j1 : Nat) (r1 : Nat → Nat → Int32) (du1 : Int32), tm_GA f tn j r n pa dp du mc1 tk1 fr1 tj1 q1 j1 r1 du1 ∧ (mo = false → tm_na tk1 du1)) ∨ (gd = false ∧ ∃ p, pl1 = nI p ∧ tt_F f tn j (r, n, pa, nI dp, du) p)
def tm_mu (gd mo : Bool) (tn fr : Nat) : Nat := if gd = true ∧ mo = true then tn + 2 - fr else 0
theorem tm_mu_f (mo : Bool) (tn fr : Nat) : tm_mu false mo tn fr = 0 := by simp [tm_mu]
theorem tm_mu_n (gd : Bool) (tn fr : Nat) : tm_mu gd false tn fr = 0 := by simp [tm_mu]
theorem tm_mu_1 {gd mo : Bool} (tn fr : Nat) (h1 : gd = true) (h2 : mo = true) : tm_mu gd mo tn fr = tn + 2 - fr := by simp [tm_mu, h1, h2]
theorem tm_mu_le (gd mo : Bool) (tn fr : Nat) : tm_mu gd mo tn fr ≤ tn + 2 - fr := by
  unfold tm_mu
  split
  · exact Nat.le_refl _
  · exact Nat.zero_le _
section
variable {f : Nat → Int32} {tn j j1 n mc1 mc2 dp : Nat} {r r1 q1 q2 : Nat → Nat → Int32} {pa du du1 tk1 tk2 pl1 pl2 : Int32} {fr1 tj1 fr2 tj2 : Nat} {b gd mo : Bool}
theorem tm_APt (h : tm_AP f tn j r n pa dp du gd mo mc1 pl1 tk1 fr1 tj1 q1) (hg : gd = true) : ∃ (j1 : Nat) (r1 : Nat → Nat → Int32) (du1 : Int32), tm_GA f tn j r n pa dp du mc1 tk1 fr1 tj1 q1 j1 r1 du1 := by
  rcases h with ⟨-, j1, r1, du1, h, -⟩ | ⟨h, -⟩
  · exact ⟨j1, r1, du1, h⟩
  · rw [hg] at h; exact absurd h (by decide)
theorem tm_mu_t {r2 : Nat → Nat → Int32} {m2 : Nat} {p2 d2 u2 : Int32} (hs : tm_sc f tn j1 tk1 fr1 tj1) (h : tm_PT f tn j1 r2 m2 p2 d2 u2 b mc2 pl2 tk2 fr2 tj2 q2) : tm_mu b true tn fr2 < tn + 2 - fr1 := by
  have hb := tt_bl_n (f := f) hs.1
  have hf := hs.2.1
  rcases h with ⟨-, j', r', h1, h2, h3, h4, h5, h6, h7⟩ | ⟨h, -⟩
  · have a := tm_bl_mono h7.1 h2
    have c := h7.2.1
    have d := tm_mu_le b true tn fr2
    omega
  · rw [h, tm_mu_f]
    omega
/-- an argument that is a leaf or a sequence -/
theorem tm_GA_t (hG : tm_GA f tn j r n pa dp du mc1 tk1 fr1 tj1 q1 j1 r1 du1) (h : tm_PT f tn j1 r1 mc1 (nI n) (nI (dp + 1)) du1 b mc2 pl2 tk2 fr2 tj2 q2) : tm_AP f tn j r n pa dp du b true mc2 pl2 tk2 fr2 tj2 q2 := by
  obtain ⟨hR1, hb1, hn1, hm1, hQ1, hE1, hs1, hk1, hp1, ha1, h61⟩ := hG
  rcases h with ⟨hb, j', r', h1, h2, h3, h4, h5, h6, h7⟩ | ⟨hb, p, e, hF⟩
  · have e := h6 n hn1
    have a1 := tt_bl_n (f := f) hs1.1
    have d : tt_db r' mc2 (nI n) = 4 := by
      unfold tt_db
      rw [tt_in_at (by omega) h4, e.1, hk1]
      decide
    rw [d] at h1
    exact Or.inl ⟨hb, j', r', 4, ⟨hR1.trans h1, by omega, by omega, h4, h5, tm_E_trans hE1 h6 (by omega), h7, e.1.trans hk1, e.2.trans hp1, Or.inr rfl, fun _ => by decide⟩, fun z => absurd z (by decide)⟩
  · exact Or.inr ⟨hb, p, e, hR1.fail hF⟩
theorem tm_nlf {tk : Int32} (h : (decide (tk = 0) || decide (tk = 1) || decide (tk = 2)) = false) : ¬ tk = 0 ∧ ¬ tk = 1 ∧ ¬ tk = 2 := by
  simp only [Bool.or_eq_false_iff, decide_eq_false_iff_not] at h
  exact ⟨h.1.1, h.1.2, h.2⟩
theorem tm_GA_n (hG : tm_GA f tn j r n pa dp du mc1 tk1 fr1 tj1 q1 j1 r1 du1) (hg : gd = true) (h1 : (decide (tk1 = 0) || decide (tk1 = 1) || decide (tk1 = 2)) = false) (h4 : ¬ tk1 = 4) (h3 : ¬ tk1 = 123) (h40 : ¬ tk1 = 40) : tm_AP f tn j r n pa dp du gd false mc1 pl1 tk1 fr1 tj1 q1 := by
  have a := tm_nlf h1
  exact Or.inl ⟨hg, j1, r1, du1, hG, fun _ => ⟨a.1, a.2.1, a.2.2, h4, h3, h40, hG.2.2.2.2.2.2.2.2.2.2⟩⟩
theorem tm_PAt {u2 : Int32} (h : tm_PA f tn j r n pa dp u2 b mc2 pl2 tk2 fr2 tj2 q2) (hb : b = true) : ∃ (j' : Nat) (r' : Nat → Nat → Int32) (du' : Int32), tt_R f tn j (r, n, pa, nI dp, u2) j' (r', mc2, nI n, nI (dp + 1), du') ∧ tt_bl f tn false j < j' ∧ n < mc2 ∧ mc2 ≤ 4096 ∧ tt_Q q2 r' mc2 ∧ tt_E r r' n ∧ tm_sc f tn j' tk2 fr2 tj2 ∧ r' 0 n = 4 ∧ r' 1 n = pa ∧ tm_ap du' ∧ tm_na tk2 du' := by
  rcases h with ⟨-, h⟩ | ⟨h, -⟩
  · exact h
  · rw [hb] at h; exact absurd h (by decide)
/-- ( -/
theorem tm_GA_p (hG : tm_GA f tn j r n pa dp du mc1 tk1 fr1 tj1 q1 j1 r1 du1) (hk : tk1 = 40) : tj1 ≤ tn ∧ tt_bl f tn false j1 < tj1 ∧ tt_R f tn j1 (r1, mc1, nI n, nI (dp + 1), du1) tj1 (r1, mc1, nI n, nI (dp + 1), 2) := tm_app_paren hG.2.2.2.2.2.2.1 hk hG.2.2.2.2.2.2.2.2.2.1
theorem tm_GA_h (hG : tm_GA f tn j r n pa dp du mc1 tk1 fr1 tj1 q1 j1 r1 du1) (hk : tk1 = 40) (h4 : ¬ tm_tok f tn (tt_bl f tn false tj1) = 4) : tm_AP f tn j r n pa dp du false true mc2 (nI (tt_bl f tn false tj1)) tk2 fr2 tj2 q2 := by
  have hp := tm_GA_p hG hk
  have hn := hG.2.2.1
  have hm := hG.2.2.2.1
  exact Or.inr ⟨rfl, _, rfl, (hG.1.trans hp.2.2).fail (tm_head_bad (tm_sc_next hp.1) h4 (tm_nI1 (by omega)))⟩
theorem tm_GA_f (hG : tm_GA f tn j r n pa dp du mc1 tk1 fr1 tj1 q1 j1 r1 du1) (hk : tk1 = 40) (hA : tm_PA f tn tj1 r1 mc1 (nI n) (dp + 1) 2 b mc2 pl2 tk2 fr2 tj2 q2) (hb : b = false) : tm_AP f tn j r n pa dp du b true mc2 pl2 tk2 fr2 tj2 q2 := by
  have hp := tm_GA_p hG hk
  rcases hA with ⟨h, -⟩ | ⟨-, p, h1, h2⟩
  · rw [hb] at h; exact absurd h (by decide)
  · exact Or.inr ⟨hb, p, h1, (hG.1.trans hp.2.2).fail h2⟩
theorem tm_GA_x (hG : tm_GA f tn j r n pa dp du mc1 tk1 fr1 tj1 q1 j1 r1 du1) (hk : tk1 = 40) (hA : tm_PA f tn tj1 r1 mc1 (nI n) (dp + 1) 2 b mc2 pl2 tk2 fr2 tj2 q2) (hb : b = true) (h41 : ¬ tk2 = 41) : tm_AP f tn j r n pa dp du false true mc2 (nI fr2) tk2 fr2 tj2 q2 := by
  have hp := tm_GA_p hG hk
  obtain ⟨hR1, hb1, hn1, hm1, hQ1, hE1, hs1, hk1, hp1, ha1, h61⟩ := hG
  obtain ⟨j', r', du', h1, h2, h3, h4, h5, h6, h7, h8, h9, hap, hna⟩ := tm_PAt hA hb
  have e4 : tt_in (r' 0) mc2 (nI n) = 4 := by rw [tt_in_at (by omega) h4, (h6 n hn1).1, hk1]
  exact Or.inr ⟨rfl, _, rfl, ((hR1.trans hp.2.2).trans h1).fail (tm_app_bad h7 h41 hna h4 h3 h9 e4 hap)⟩
theorem tm_GA_c (hG : tm_GA f tn j r n pa dp du mc1 tk1 fr1 tj1 q1 j1 r1 du1) (hk : tk1 = 40) (hA : tm_PA f tn tj1 r1 mc1 (nI n) (dp + 1) 2 b mc2 pl2 tk2 fr2 tj2 q2) (hb : b = true) (h41 : tk2 = 41) : tj2 ≤ tn ∧ fr1 < tt_bl f tn false tj2 ∧ ∀ pl, tm_AP f tn j r n pa dp du b true mc2 pl (tm_tok f tn (tt_bl f tn false tj2)) (tt_bl f tn false tj2) (tm_to f tn (tt_bl f tn false tj2)) q2 := by
  have hp := tm_GA_p hG hk
  obtain ⟨hR1, hb1, hn1, hm1, hQ1, hE1, hs1, hk1, hp1, ha1, h61⟩ := hG
  obtain ⟨j', r', du', h1, h2, h3, h4, h5, h6, h7, h8, h9, hap, hna⟩ := tm_PAt hA hb
  have e4 : tt_in (r' 0) mc2 (nI n) = 4 := by rw [tt_in_at (by omega) h4, (h6 n hn1).1, hk1]
  have hc := tm_app_close (dp := dp + 1) h7 h41 h4 h3 h9 e4 hap
  have a1 := tt_bl_n (f := f) hs1.1
  have a2 := tt_bl_n (f := f) hp.1
  have a3 := tt_bl_n (f := f) h7.1
  have a4 := tt_bl_n (f := f) hc.1
  have a5 := hs1.2.1
  exact ⟨hc.1, by omega, fun pl => Or.inl ⟨hb, tj2, r', 4, ⟨((hR1.trans hp.2.2).trans h1).trans hc.2.2, by omega, by omega, h4, h5, tm_E_trans hE1 h6 (by omega), tm_sc_next hc.1, (h6 n hn1).1.trans hk1, (h6 n hn1).2.trans hp1, Or.inr rfl, fun _ => by decide⟩, fun z => absurd z (by decide)⟩⟩
theorem tm_AP_end (h : tm_AP f tn j r n pa dp du gd mo mc1 pl1 tk1 fr1 tj1 q1) (hg : gd = false ∨ mo = false) : tm_PA f tn j r n pa dp du gd mc1 pl1 tk1 fr1 tj1 q1 := by
  rcases h with ⟨h0, j1, r1, du1, ⟨h1, h2, h3, h4, h5, h6, h7, h8, h9, hap, -⟩, hna⟩ | h
  · rcases hg with hg | hg
    · rw [hg] at h0; exact absurd h0 (by decide)
    · exact Or.inl ⟨h0, j1, r1, du1, h1, h2, h3, h4, h5, h6, h7, h8, h9, hap, hna hg⟩
  · exact Or.inr h
theorem tm_GA_0 {q : Nat → Nat → Int32} {fr tj : Nat} (h1 : tj ≤ tn) (h2 : tt_bl f tn false j < tj) (h3 : tt_R f tn j (r, n, pa, nI dp, du) tj (tt_add r n 4 pa fr tj, n + 1, nI n, nI dp + 1, 3) ∧ n + 1 ≤ 4096 ∧ tt_Q (tm_new q n 4 pa fr tj) (tt_add r n 4 pa fr tj) (n + 1) ∧ tt_E r (tt_add r n 4 pa fr tj) n ∧ tt_add r n 4 pa fr tj 0 n = 4 ∧ tt_add r n 4 pa fr tj 1 n = pa) (h6 : ¬ tm_tok f tn (tt_bl f tn false tj) = 6) : tm_AP f tn j r n pa dp du true true (n + 1) pl1 (tm_tok f tn (tt_bl f tn false tj)) (tt_bl f tn false tj) (tm_to f tn (tt_bl f tn false tj)) (tm_new q n 4 pa fr tj) := by
  have hR := h3.1
  rw [nI_1] at hR
  exact Or.inl ⟨rfl, tj, _, 3, ⟨hR, h2, by omega, h3.2.1, h3.2.2.1, h3.2.2.2.1, tm_sc_next h1, h3.2.2.2.2.1, h3.2.2.2.2.2, Or.inl rfl, fun z => absurd z h6⟩, fun z => absurd z (by decide)⟩
theorem tm_GA_m {q : Nat → Nat → Int32} {fr tj : Nat} (htn : tn ≤ 16384) (h1 : tj ≤ tn) (h2 : tt_bl f tn false j < tj) (h3 : tt_R f tn j (r, n, pa, nI dp, du) tj (tt_add r n 4 pa fr tj, n + 1, nI n, nI dp + 1, 3) ∧ n + 1 ≤ 4096 ∧ tt_Q (tm_new q n 4 pa fr tj) (tt_add r n 4 pa fr tj) (n + 1) ∧ tt_E r (tt_add r n 4 pa fr tj) n ∧ tt_add r n 4 pa fr tj 0 n = 4 ∧ tt_add r n 4 pa fr tj 1 n = pa) (h6 : tm_tok f tn (tt_bl f tn false tj) = 6) : tm_to f tn (tt_bl f tn false tj) ≤ tn ∧ tm_AP f tn j r n pa dp du true true (n + 1) pl1 (tm_tok f tn (tt_bl f tn false (tm_to f tn (tt_bl f tn false tj)))) (tt_bl f tn false (tm_to f tn (tt_bl f tn false tj))) (tm_to f tn (tt_bl f tn false (tm_to f tn (tt_bl f tn false tj)))) (tt_set (tt_set (tm_new q n 4 pa fr tj) 4 n (nI (tt_bl f tn false tj + 1))) 5 n (nI (tm_to f tn (tt_bl f tn false tj)))) := by
  have hR := h3.1
  rw [nI_1] at hR
  have hm := tm_app_mark (dp1 := nI (dp + 1)) (tm_sc_next h1) htn h6 h3.2.1 (Nat.lt_succ_self n) h3.2.2.1
  have a1 := tt_bl_n (f := f) h1
  exact ⟨hm.1, Or.inl ⟨rfl, _, _, 4, ⟨hR.trans hm.2.2.1, by omega, by omega, h3.2.1, hm.2.2.2, tm_E_set (tm_E_set h3.2.2.2.1 ⟨by decide, by decide⟩) ⟨by decide, by decide⟩, tm_sc_next hm.1, by simp [tt_set_get, h3.2.2.2.2.1], by simp [tt_set_get, h3.2.2.2.2.2], Or.inr rfl, fun _ => by decide⟩, fun z => absurd z (by decide)⟩⟩
/-! an item -/
theorem tm_PT_PI' {d2 u2 : Int32} (h : tm_PT f tn j r n pa d2 u2 b mc2 pl2 tk2 fr2 tj2 q2) (hpk : ∀ (r' : Nat → Nat → Int32) (n' : Nat), tt_E r r' n → n ≤ n' → n' ≤ 4096 → ¬ tt_in (r' 0) n' pa = 4) : tm_PI f tn j r n pa d2 u2 b mc2 pl2 tk2 fr2 tj2 q2 := by
  cases hb : b with
  | false =>
    rw [hb] at h
    rcases h with ⟨h, -⟩ | h
    · exact absurd h (by decide)
    · exact Or.inr h
  | true =>
    rw [hb] at h
    exact tm_PT_PI h (fun r' h1 h2 => hpk r' _ h1 h2 (tm_PTm h rfl))
theorem tm_PA_PI' {u2 : Int32} (h : tm_PA f tn j r n pa dp u2 b mc2 pl2 tk2 fr2 tj2 q2) (hpk : ∀ (r' : Nat → Nat → Int32) (n' : Nat), tt_E r r' n → n ≤ n' → n' ≤ 4096 → ¬ tt_in (r' 0) n' pa = 4) : tm_PI f tn j r n pa (nI dp) u2 b mc2 pl2 tk2 fr2 tj2 q2 := by
  cases hb : b with
  | false =>
    rw [hb] at h
    rcases h with ⟨h, -⟩ | h
    · exact absurd h (by decide)
    · exact Or.inr h
  | true =>
    rw [hb] at h
    obtain ⟨j', r', du', h1, h2, h3, h4, -⟩ := tm_PAt h rfl
    exact tm_PA_PI h (fun r' a1 a2 => hpk r' _ a1 a2 h4)
theorem tm_item_bad {fr tj : Nat} {d2 tk : Int32} (hs : tm_sc f tn j tk fr tj) (h1 : (decide (tk = 0) || decide (tk = 1) || decide (tk = 2)) = false) (h123 : ¬ tk = 123) (h4 : ¬ tk = 4) (h125 : tk = 125 → pa = -1) : tt_F f tn j (r, n, pa, d2, 0) fr := by
  have hs' := hs
  obtain ⟨hj, hfr, htk, htj⟩ := hs'
  have e := (tm_tok_eq f tn fr).1
  rw [← htk] at e
  have a := tm_nlf h1
  have n0 : ¬ tt_tok f tn fr = 0 := fun z => by rw [z] at e; exact a.1 (by rw [e]; decide)
  have n1 : ¬ tt_tok f tn fr = 1 := fun z => by rw [z] at e; exact a.2.1 (by rw [e]; decide)
  have n2 : ¬ tt_tok f tn fr = 2 := fun z => by rw [z] at e; exact a.2.2 (by rw [e]; decide)
  have n5 : ¬ tt_tok f tn fr = 5 := fun z => by rw [z] at e; exact h4 (by rw [e]; decide)
  have n3 : ¬ tt_tok f tn fr = 123 := fun z => by rw [z] at e; exact h123 (by rw [e]; decide)
  have n125 : tt_tok f tn fr = 125 → pa = -1 := fun z => by rw [z] at e; exact h125 (by rw [e]; decide)
  have hcl : ∀ T, tt_clIt T (r, n, pa, d2, 0) = (r, n, pa, d2, 0) := fun T => by simp [tt_clIt, tt_ia]
  refine tm_no hs (fun z => ?_) (fun b i k z => ?_)
  · rw [hcl]
    exact fun w => absurd (show (0 : Int32) = 1 from w.2) (by decide)
  · rw [hcl]
    simp only [tt_take, n0, n1, n2, n5, n3, if_false]
    split
    · simp [tt_tM]
    split
    · simp [tt_tO, tt_ia]
    split
    · simp [tt_tC, tt_ia]
    split
    · simp [tt_tS]
    split
    · rename_i g
      simp [tt_tE, n125 g]
    · rfl
end
