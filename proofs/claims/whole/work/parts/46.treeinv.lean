/-! The tree is kept. -/
theorem tt_take_cases {b : Bool} {tk : Int32} {i j : Nat} {σ : tt_S} (X : Bool × tt_S → Prop) (h0 : X (false, σ)) (h1 : tk = 0 → X (tt_lf 0 i j σ)) (h2 : tk = 1 ∨ tk = 2 → X (tt_lf tk i j σ)) (h3 : tk = 5 → X (tt_tW i j σ)) (h4 : tk = 6 → X (tt_tM i j σ)) (h5 : X (tt_tO σ)) (h6 : X (tt_tC σ)) (h7 : X (tt_tS σ)) (h8 : tk = 123 → X (tt_tQ i j σ)) (h9 : tk = 125 → X (tt_tE j σ)) : X (tt_take b tk i j σ) := by
  unfold tt_take
  repeat' split
  all_goals first | exact h0 | exact h5 | exact h6 | exact h7 | (apply h1; assumption) | (apply h2; first | (left; assumption) | (right; assumption)) | (apply h3; assumption) | (apply h4; assumption) | (apply h8; assumption) | (apply h9; assumption)
theorem tt_Op_ne {g : Nat → Int32} {n : Nat} {op du : Int32} (hn : n ≤ 4096) (h : tt_Op g n op du) (h0 : ¬ du = 0) (h1 : ¬ du = 1) : ¬ op = -1 := fun z => by
  rcases h with ⟨-, ⟨-, w⟩ | w⟩ | ⟨o, w1, w2, w3⟩
  · exact h0 w
  · exact h1 w
  · rw [z] at w2
    exact tt_nIx (by omega) w2.symm
theorem tt_Op_du {g : Nat → Int32} {n : Nat} {op du : Int32} (h : tt_Op g n op du) (hop : ¬ op = -1) (du' : Int32) : tt_Op g n op du' := by
  rcases h with ⟨w, -⟩ | h
  · exact absurd w hop
  · exact Or.inr h
theorem tt_ia_ne {du : Int32} (h : tt_ia du = true) : ¬ du = 0 ∧ ¬ du = 1 := by
  refine ⟨fun z => ?_, fun z => ?_⟩ <;> (rw [z] at h; exact absurd h (by decide))
def tt_P1 (σ : tt_S) : Prop := σ.2.1 ≤ 4096 ∧ tt_Tr (σ.1 1) σ.2.1 ∧ tt_Op (σ.1 1) σ.2.1 σ.2.2.1 σ.2.2.2.2
theorem tt_P1_close {σ : tt_S} (h : tt_P1 σ) (hop : ¬ σ.2.2.1 = -1) : tt_P1 (tt_close σ) := ⟨h.1, h.2.1, tt_Op_close h.1 h.2.1 h.2.2 hop⟩
theorem tt_P1_cl (tk : Int32) (σ : tt_S) (h : tt_P1 σ) : tt_P1 (tt_clIt tk σ) := by
  unfold tt_clIt
  split
  · rename_i q
    have a := tt_ia_ne q.2.1
    exact tt_P1_close h (tt_Op_ne h.1 h.2.2 a.1 a.2)
  · exact h
theorem tt_aT_ok {k : Int32} {i j : Nat} {σ : tt_S} (h : ¬ tt_aT k i j σ = -1) : σ.2.2.2.1 < 60 ∧ ¬ 4096 ≤ σ.2.1 ∧ tt_aT k i j σ = nI σ.2.1 ∧ tt_aS k i j σ = (tt_add σ.1 σ.2.1 k σ.2.2.1 i j, σ.2.1 + 1, σ.2.2) := by
  unfold tt_aT at h ⊢
  unfold tt_aS
  by_cases q : σ.2.2.2.1 < 60
  · rw [if_neg (fun z => z q)] at h ⊢
    rw [if_neg (fun z => z q)]
    unfold tt_addr at h ⊢
    unfold tt_addn
    by_cases w : 4096 ≤ σ.2.1
    · rw [if_pos w] at h
      exact absurd rfl h
    · rw [if_neg w, if_neg w]
      exact ⟨q, w, rfl, rfl⟩
  · rw [if_pos q] at h
    exact absurd rfl h
theorem tt_P1_lf {k : Int32} {i j : Nat} {σ : tt_S} (h : tt_P1 σ) : (tt_lf k i j σ).1 = true → tt_P1 (tt_lf k i j σ).2 := by
  unfold tt_lf
  split
  · intro z; exact Bool.noConfusion z
  split
  · intro z; exact Bool.noConfusion z
  · rename_i q1 q2
    intro _
    obtain ⟨a1, a2, a3, a4⟩ := tt_aT_ok q2
    have hd : ¬ σ.2.2.2.2 = 1 := fun z => q1 ⟨by rw [z]; decide, by rw [z]; decide⟩
    have t := tt_Tr_add (k := k) (i := i) (j := j) a2 h.2.1 h.2.2 hd
    rw [a4]
    exact ⟨by show σ.2.1 + 1 ≤ 4096; omega, t.1, t.2.1 _ (fun z => by show tt_db _ _ σ.2.2.1 = 1; rw [z]; unfold tt_db; rw [tt_in_lo (by decide)]; decide)⟩
theorem tt_P1_op {k du : Int32} {i j : Nat} {σ : tt_S} (h : tt_P1 σ) (hd : ¬ σ.2.2.2.2 = 1) : (tt_op k du i j σ).1 = true → tt_P1 (tt_op k du i j σ).2 := by
  unfold tt_op
  split
  · intro z; exact Bool.noConfusion z
  · rename_i q2
    intro _
    obtain ⟨a1, a2, a3, a4⟩ := tt_aT_ok q2
    have t := tt_Tr_add (k := k) (i := i) (j := j) a2 h.2.1 h.2.2 hd
    rw [a3, a4]
    exact ⟨by show σ.2.1 + 1 ≤ 4096; omega, t.1, t.2.2 _⟩
theorem tt_mkR_1 (r : Nat → Nat → Int32) (n : Nat) (x : Int32) (i j : Nat) : tt_mkR r n x i j 1 = r 1 := by
  unfold tt_mkR
  split
  · funext b
    simp [tt_set_get]
  · rfl
theorem tt_endR_1 (r : Nat → Nat → Int32) (n : Nat) (x : Int32) (j : Nat) : tt_endR r n x j 1 = r 1 := by
  unfold tt_endR
  split
  · funext b
    simp [tt_set_get]
  · rfl
theorem tt_P1_take {b : Bool} {tk : Int32} {i j : Nat} {σ : tt_S} (h : tt_P1 σ) : (tt_take b tk i j σ).1 = true → tt_P1 (tt_take b tk i j σ).2 := by
  refine tt_take_cases (fun R => R.1 = true → tt_P1 R.2) (fun z => Bool.noConfusion z) (fun _ => tt_P1_lf h) (fun _ => tt_P1_lf h) (fun _ => ?_) (fun _ => ?_) ?_ ?_ ?_ (fun _ => ?_) (fun _ => ?_)
  · unfold tt_tW
    split
    · exact tt_P1_lf h
    split
    · rename_i q
      exact tt_P1_op h (fun z => by rw [z] at q; rcases q with q | q <;> exact absurd q (by decide))
    · intro z; exact Bool.noConfusion z
  · unfold tt_tM
    split
    · intro z; exact Bool.noConfusion z
    · rename_i q
      intro _
      have q := Decidable.of_not_not q
      have hop := tt_Op_ne h.1 h.2.2 (by rw [q]; decide) (by rw [q]; decide)
      refine ⟨h.1, ?_, ?_⟩
      · show tt_Tr (tt_mkR σ.1 σ.2.1 σ.2.2.1 (i + 1) j 1) σ.2.1
        rw [tt_mkR_1]; exact h.2.1
      · show tt_Op (tt_mkR σ.1 σ.2.1 σ.2.2.1 (i + 1) j 1) σ.2.1 σ.2.2.1 4
        rw [tt_mkR_1]; exact tt_Op_du h.2.2 hop 4
  · unfold tt_tO
    split
    · intro z; exact Bool.noConfusion z
    · rename_i q
      intro _
      have a := tt_ia_ne (Bool.not_eq_false _ |>.mp q)
      exact ⟨h.1, h.2.1, tt_Op_du h.2.2 (tt_Op_ne h.1 h.2.2 a.1 a.2) 2⟩
  · unfold tt_tC
    split
    · intro z; exact Bool.noConfusion z
    · rename_i q
      intro _
      have a := tt_ia_ne (Bool.not_eq_false _ |>.mp (fun z => q (Or.inl z)))
      exact tt_P1_close h (tt_Op_ne h.1 h.2.2 a.1 a.2)
  · unfold tt_tS
    split
    · intro z; exact Bool.noConfusion z
    · rename_i q
      intro _
      exact ⟨h.1, h.2.1, tt_Op_du h.2.2 (fun z => q (Or.inl z)) 0⟩
  · unfold tt_tQ
    split
    · rename_i q
      exact tt_P1_op h (fun z => by rw [z] at q; rcases q with q | q <;> exact absurd q (by decide))
    · intro z; exact Bool.noConfusion z
  · unfold tt_tE
    split
    · intro z; exact Bool.noConfusion z
    · rename_i q
      intro _
      refine tt_P1_close (σ := (tt_endR σ.1 σ.2.1 σ.2.2.1 j, σ.2)) ⟨h.1, ?_, ?_⟩ (fun z => q (Or.inl z))
      · show tt_Tr (tt_endR σ.1 σ.2.1 σ.2.2.1 j 1) σ.2.1
        rw [tt_endR_1]; exact h.2.1
      · show tt_Op (tt_endR σ.1 σ.2.1 σ.2.2.1 j 1) σ.2.1 σ.2.2.1 σ.2.2.2.2
        rw [tt_endR_1]; exact h.2.2
theorem tt_P1_0 (r : Nat → Nat → Int32) : tt_P1 (r, 0, -1, 0, 0) := ⟨Nat.zero_le _, fun t ht => absurd ht (Nat.not_lt_zero _), Or.inl ⟨rfl, Or.inl ⟨rfl, rfl⟩⟩⟩
