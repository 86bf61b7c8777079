/-! The whole reading, of both. -/
theorem tm_rec (l : Launch) (D : va_G) (cI cB cL : ClassId) (d : Nat) : cs_MO_item l D cI cB cL d ∧ cs_MO_sequence l D cI cB cL d ∧ cs_MO_application l D cI cB cL d := by
  induction d with
  | zero =>
    have a := cr_MO_sequence l D cI cB cL 0 (fun h => absurd h (by decide))
    have b := cr_MO_application l D cI cB cL 0 (fun h => absurd h (by decide)) (fun h => absurd h (by decide))
    exact ⟨cr_MO_item l D cI cB cL 0 a b, a, b⟩
  | succ d ih =>
    have a := cr_MO_sequence l D cI cB cL (d + 1) (fun _ => ih.1)
    have b := cr_MO_application l D cI cB cL (d + 1) (fun _ => ih.2.1) (fun _ => ih.2.2)
    exact ⟨cr_MO_item l D cI cB cL (d + 1) a b, a, b⟩
theorem tt_up_other (n : Nat) : ∀ (t : Nat) (r : Nat → Nat → Int32) (a : Nat), ¬ a = 3 → tt_up n t r a = r a := by
  intro t
  induction t with
  | zero => intro r a h; rfl
  | succ t ih =>
    intro r a h
    rw [tt_up, ih _ _ h]
    unfold tt_upStep
    split
    · funext b
      rw [tt_set_get, if_neg (fun z => h z.1)]
    · rfl
theorem tt_Q_up {q r : Nat → Nat → Int32} {n m t : Nat} (h : tt_Q q r n) : tt_Q q (tt_up m t r) n := fun z hz => by
  rw [tt_up_other m t r 0 (by decide), tt_up_other m t r 1 (by decide), tt_up_other m t r 4 (by decide), tt_up_other m t r 5 (by decide), tt_up_other m t r 6 (by decide), tt_up_other m t r 7 (by decide)]
  exact h z hz
theorem tt_Q_0 (q r : Nat → Nat → Int32) : tt_Q q r 0 := fun z hz => absurd hz (Nat.not_lt_zero _)
theorem tt_cpS {g f : Nat → Int32} {u : Nat} (h : (g u).toInt8.toInt32 = g u) : upd (va_cpy g f 0 0 u) u (vp_nar .byte (g u)) = va_cpy g f 0 0 (u + 1) := by
  funext k
  rw [vp_nar_byte, h]
  unfold upd va_cpy
  by_cases e : k = u
  · subst e
    simp
  · rw [if_neg e]
    by_cases z : k < u
    · rw [if_pos (by omega), if_pos (by omega)]
    · rw [if_neg (by omega), if_neg (by omega)]
theorem tt_cp0 {g f : Nat → Int32} : va_cpy g f 0 0 0 = f := by
  funext k
  unfold va_cpy
  rw [if_neg (by omega)]
theorem tt_cpB {g f : Nat → Int32} {n : Nat} (hg : ∀ k, (g k).toInt8.toInt32 = g k) (hf : ∀ k, (f k).toInt8.toInt32 = f k) : ∀ k, (va_cpy g f 0 0 n k).toInt8.toInt32 = va_cpy g f 0 0 n k := by
  intro k
  unfold va_cpy
  split
  · exact hg _
  · exact hf _
def tm_RD (f : Nat → Int32) (tn : Nat) (r : Nat → Nat → Int32) (a : Int32) (mc2 : Nat) (q2 : Nat → Nat → Int32) : Prop := a = tt_rdA f tn r ∧ mc2 = tt_rdN f tn r ∧ mc2 ≤ 4096 ∧ (a = -1 → tt_Q q2 (tt_rdS f tn r).1 mc2)
section
variable {f : Nat → Int32} {tn mc2 : Nat} {r q2 : Nat → Nat → Int32} {pl2 tk2 : Int32} {fr2 tj2 : Nat} {b : Bool}
theorem tm_RD_F {p : Nat} (ht : tn ≤ 16384) (h : tt_F f tn 0 (r, 0, -1, 0, 0) p) : tm_RD f tn r (nI p) 0 q2 := by
  obtain ⟨hp, k, hk, g⟩ := h
  have e : tt_rdA f tn r = nI p := by
    unfold tt_rdA
    have := g (tn + 1 - k)
    rw [show tn + 1 - k + k = tn + 1 by omega] at this
    exact this
  have hn : ¬ nI p = -1 := fun z => nI_pos (show p < 2 ^ 31 by omega) (by rw [z]; decide)
  refine ⟨e.symm, ?_, Nat.zero_le _, fun z => absurd z hn⟩
  unfold tt_rdN
  rw [e, if_neg hn]
theorem tm_RD_f (ht : tn ≤ 16384) (h : tm_PI f tn 0 r 0 (-1) 0 0 b mc2 pl2 tk2 fr2 tj2 q2) (hb : b = false) : tm_RD f tn r pl2 0 q2 := by
  obtain ⟨p, h1, h2⟩ := tm_PIf h hb
  rw [h1]
  exact tm_RD_F ht h2
theorem tm_RD_x (ht : tn ≤ 16384) (h : tm_PI f tn 0 r 0 (-1) 0 0 b mc2 pl2 tk2 fr2 tj2 q2) (hb : b = true) (h5 : ¬ tk2 = 5) : tm_RD f tn r (nI fr2) 0 q2 := by
  obtain ⟨j', r', op', dp', du', h1, h2, h3, h4, h6, h7, hs, hA⟩ := tm_PIt h hb
  refine tm_RD_F ht (h1.fail ?_)
  have hs' := hs
  obtain ⟨hj, hfr, htk, htj⟩ := hs'
  by_cases n59 : tk2 = 59
  · have hT : tt_tok f tn fr2 = 59 := tm_inv (by rw [← htk]; exact n59) (by decide) (by decide)
    have e := hA.1 (Or.inl hT)
    refine tm_no hs (fun z => absurd (hT.symm.trans z) (by decide)) (fun b i k z => ?_)
    rw [e, hT]
    simp [tt_take, tt_tS]
  by_cases n125 : tk2 = 125
  · have hT : tt_tok f tn fr2 = 125 := tm_inv (by rw [← htk]; exact n125) (by decide) (by decide)
    have e := hA.1 (Or.inr (Or.inl hT))
    refine tm_no hs (fun z => absurd (hT.symm.trans z) (by decide)) (fun b i k z => ?_)
    rw [e, hT]
    simp [tt_take, tt_tE]
  exact tm_seq_bad hs n59 n125 (Or.inr h5) hA
theorem tm_RD_t (h : tm_PI f tn 0 r 0 (-1) 0 0 b mc2 pl2 tk2 fr2 tj2 q2) (hb : b = true) (h5 : tk2 = 5) : tm_RD f tn r (-1) mc2 q2 := by
  obtain ⟨j', r', op', dp', du', ⟨k, hk, g⟩, h2, h3, h4, h6, h7, hs, hA⟩ := tm_PIt h hb
  obtain ⟨hj, hfr, htk, htj⟩ := hs
  have e := (tm_tok_eq f tn fr2).1
  rw [← htk, h5, tm_map] at e
  have hT : tt_tok f tn fr2 = 8 := by
    by_cases a : tt_tok f tn fr2 = 5
    · rw [if_pos a] at e; exact absurd e (by decide)
    by_cases c : tt_tok f tn fr2 = 8
    · exact c
    rw [if_neg a, if_neg c] at e
    exact absurd e.symm a
  have hc := hA.1 (Or.inr (Or.inr hT))
  rw [hT] at hc
  have hr : tt_run f tn (tn + 1) 0 (r, 0, -1, 0, 0) = (-1, (tt_up mc2 (mc2 - 1) r', mc2, -1, 0, 1)) := by
    have := g (tn - k + 1)
    rw [show tn - k + 1 + k = tn + 1 by omega] at this
    rw [this, tt_run, ← hfr, if_pos hT, hc]
    simp [tt_fin]
  refine ⟨?_, ?_, h4, fun _ => ?_⟩
  · unfold tt_rdA; rw [hr]
  · unfold tt_rdN tt_rdA tt_rdS; rw [hr]; rfl
  · unfold tt_rdS; rw [hr]; exact tt_Q_up h6
end
