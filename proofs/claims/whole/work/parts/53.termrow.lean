/-! What stands at a term's places: kept by every step. -/
theorem tt_take_cs2 {b : Bool} {tk : Int32} {i j : Nat} {σ : tt_S} (X : Bool × tt_S → Prop) (h0 : X (false, σ)) (h1 : tk = 0 → b = false → X (tt_lf 0 i j σ)) (h2 : tk = 1 ∨ tk = 2 → X (tt_lf tk i j σ)) (h3 : tk = 5 → X (tt_tW i j σ)) (h4 : tk = 6 → X (tt_tM i j σ)) (h5 : X (tt_tO σ)) (h6 : X (tt_tC σ)) (h7 : X (tt_tS σ)) (h8 : tk = 123 → X (tt_tQ i j σ)) (h9 : tk = 125 → X (tt_tE j σ)) : X (tt_take b tk i j σ) := by
  unfold tt_take
  by_cases z : tk = 0
  · rw [if_pos z]
    cases b with
    | true => rw [if_pos rfl]; exact h0
    | false => rw [if_neg (by decide)]; exact h1 z rfl
  · rw [if_neg z]
    repeat' split
    all_goals first | exact h0 | exact h5 | exact h6 | exact h7 | (apply h2; first | (left; assumption) | (right; assumption)) | (apply h3; assumption) | (apply h4; assumption) | (apply h8; assumption) | (apply h9; assumption)
/-- a term's rows: kind, from, to, mark's from and to -/
def tt_tm (f : Nat → Int32) (n : Nat) (k a b c d : Int32) : Prop :=
  (∃ x, x < n ∧ a = nI x ∧ ((k = 0 ∧ tt_tok f n x = 0 ∧ b = nI (tt_to f n x) ∧ tt_big f n x (tt_to f n x) = false) ∨ ((k = 1 ∨ k = 2) ∧ tt_tok f n x = k ∧ b = nI (tt_to f n x)) ∨ (k = 3 ∧ ∃ y, y ≤ n ∧ b = nI y) ∨ (k = 4 ∧ tt_tok f n x = 5 ∧ b = nI (tt_to f n x)))) ∧
  ((c = 0 ∧ d = 0) ∨ (k = 4 ∧ ∃ z, z < n ∧ tt_tok f n z = 6 ∧ c = nI (z + 1) ∧ d = nI (tt_to f n z)))
def tt_KO (r : Nat → Nat → Int32) (n : Nat) (op du : Int32) : Prop := ∀ o, o < n → op = nI o → (r 0 o = 3 ∧ (du = 0 ∨ du = 1)) ∨ (r 0 o = 4 ∧ (du = 2 ∨ du = 3 ∨ du = 4))
def tt_P3 (f : Nat → Int32) (n : Nat) (σ : tt_S) : Prop :=
  (∀ t, t < σ.2.1 → tt_tm f n (σ.1 0 t) (σ.1 4 t) (σ.1 5 t) (σ.1 6 t) (σ.1 7 t) ∧ ∀ y, y < t → σ.1 1 t = nI y → σ.1 0 y = 3 ∨ σ.1 0 y = 4) ∧ tt_KO σ.1 σ.2.1 σ.2.2.1 σ.2.2.2.2
theorem tt_add_new {r : Nat → Nat → Int32} {n : Nat} {k p : Int32} {i j a : Nat} (hn : ¬ 4096 ≤ n) (ha : ¬ a = 2) (t : Nat) : tt_add r n k p i j a t = tt_new r n k p i j a t := by
  unfold tt_add
  rw [if_neg hn]
  split
  · rfl
  split
  · rfl
  · rw [tt_set_get, if_neg (fun z => ha z.1)]
theorem tt_db_KO {r : Nat → Nat → Int32} {n : Nat} {op : Int32} (hn : n ≤ 4096) (h : ∀ o, o < n → op = nI o → r 0 o = 3 ∨ r 0 o = 4) : tt_KO r n op (tt_db r n op) := by
  intro o ho e
  unfold tt_db
  rw [e, tt_in_at ho hn]
  rcases h o ho e with q | q
  · rw [if_neg (by rw [q]; decide)]
    exact Or.inl ⟨q, Or.inr rfl⟩
  · rw [if_pos q]
    exact Or.inr ⟨q, Or.inr (Or.inr rfl)⟩
section
variable {f : Nat → Int32} {n : Nat}
theorem tt_P3_close {σ : tt_S} (h1 : tt_P1 σ) (h : tt_P3 f n σ) (hop : ¬ σ.2.2.1 = -1) : tt_P3 f n (tt_close σ) := by
  refine ⟨h.1, tt_db_KO h1.1 (fun o ho e => ?_)⟩
  rcases h1.2.2 with ⟨w, -⟩ | ⟨y, w1, w2, -⟩
  · exact absurd w hop
  · have e2 : tt_in (σ.1 1) σ.2.1 σ.2.2.1 = σ.1 1 y := by rw [w2, tt_in_at w1 h1.1]
    have e : tt_in (σ.1 1) σ.2.1 σ.2.2.1 = nI o := e
    rw [e2] at e
    show σ.1 0 o = 3 ∨ σ.1 0 o = 4
    have ho : o < σ.2.1 := ho
    rcases h1.2.1 y w1 with ⟨q1, q2⟩ | ⟨q1, z, q2, q3, q4⟩
    · rw [q2] at e
      have := h1.1
      exact absurd e.symm (tt_nIx (by omega))
    · have := h1.1
      have e3 : z = o := (nI_eq (by omega) (by omega)).mp (q3.symm.trans e)
      rw [← e3]
      exact (h.1 y w1).2 z q2 q3
theorem tt_P3_cl (tk : Int32) (σ : tt_S) (h1 : tt_P1 σ) (h : tt_P3 f n σ) : tt_P3 f n (tt_clIt tk σ) := by
  unfold tt_clIt
  split
  · rename_i q
    have a := tt_ia_ne q.2.1
    exact tt_P3_close h1 h (tt_Op_ne h1.1 h1.2.2 a.1 a.2)
  · exact h
theorem tt_P3_add {k : Int32} {i j : Nat} {σ : tt_S} (hn : ¬ 4096 ≤ σ.2.1) (h1 : tt_P1 σ) (h : tt_P3 f n σ) (hk : tt_tm f n k (nI i) (nI j) 0 0) :
    (∀ t, t < σ.2.1 + 1 → tt_tm f n (tt_add σ.1 σ.2.1 k σ.2.2.1 i j 0 t) (tt_add σ.1 σ.2.1 k σ.2.2.1 i j 4 t) (tt_add σ.1 σ.2.1 k σ.2.2.1 i j 5 t) (tt_add σ.1 σ.2.1 k σ.2.2.1 i j 6 t) (tt_add σ.1 σ.2.1 k σ.2.2.1 i j 7 t) ∧ ∀ y, y < t → tt_add σ.1 σ.2.1 k σ.2.2.1 i j 1 t = nI y → tt_add σ.1 σ.2.1 k σ.2.2.1 i j 0 y = 3 ∨ tt_add σ.1 σ.2.1 k σ.2.2.1 i j 0 y = 4) ∧
    (∀ o, o < σ.2.1 + 1 → σ.2.2.1 = nI o → tt_add σ.1 σ.2.1 k σ.2.2.1 i j 0 o = 3 ∨ tt_add σ.1 σ.2.1 k σ.2.2.1 i j 0 o = 4) ∧ tt_add σ.1 σ.2.1 k σ.2.2.1 i j 0 σ.2.1 = k := by
  have a0 : ∀ t, tt_add σ.1 σ.2.1 k σ.2.2.1 i j 0 t = if t = σ.2.1 then k else σ.1 0 t := fun t => by rw [tt_add_new hn (by decide)]; unfold tt_new; simp [tt_set_get]
  have a1 := tt_add_1 (r := σ.1) (n := σ.2.1) (k := k) (p := σ.2.2.1) (i := i) (j := j) hn
  have a4 : ∀ t, tt_add σ.1 σ.2.1 k σ.2.2.1 i j 4 t = if t = σ.2.1 then nI i else σ.1 4 t := fun t => by rw [tt_add_new hn (by decide)]; unfold tt_new; simp [tt_set_get]
  have a5 : ∀ t, tt_add σ.1 σ.2.1 k σ.2.2.1 i j 5 t = if t = σ.2.1 then nI j else σ.1 5 t := fun t => by rw [tt_add_new hn (by decide)]; unfold tt_new; simp [tt_set_get]
  have a6 : ∀ t, tt_add σ.1 σ.2.1 k σ.2.2.1 i j 6 t = if t = σ.2.1 then 0 else σ.1 6 t := fun t => by rw [tt_add_new hn (by decide)]; unfold tt_new; simp [tt_set_get]
  have a7 : ∀ t, tt_add σ.1 σ.2.1 k σ.2.2.1 i j 7 t = if t = σ.2.1 then 0 else σ.1 7 t := fun t => by rw [tt_add_new hn (by decide)]; unfold tt_new; simp [tt_set_get]
  have op : ∀ o, o < σ.2.1 + 1 → σ.2.2.1 = nI o → o < σ.2.1 := by
    intro o ho e
    rcases h1.2.2 with ⟨w, -⟩ | ⟨y, w1, w2, -⟩
    · rw [w] at e
      exact absurd e.symm (tt_nIx (by omega))
    · have := (nI_eq (a := y) (b := o) (by omega) (by omega)).mp (w2.symm.trans e)
      omega
  have opk : ∀ o, o < σ.2.1 → σ.2.2.1 = nI o → σ.1 0 o = 3 ∨ σ.1 0 o = 4 := fun o ho e => by
    rcases h.2 o ho e with w | w
    · exact Or.inl w.1
    · exact Or.inr w.1
  refine ⟨fun t ht => ?_, fun o ho e => ?_, by rw [a0, if_pos rfl]⟩
  · rw [a0 t, a4 t, a5 t, a6 t, a7 t, a1 t]
    by_cases q : t = σ.2.1
    · rw [if_pos q, if_pos q, if_pos q, if_pos q, if_pos q, if_pos q]
      refine ⟨hk, fun y hy e => ?_⟩
      have hy2 := op y (by omega) e
      rw [a0 y, if_neg (by omega)]
      exact opk y hy2 e
    · rw [if_neg q, if_neg q, if_neg q, if_neg q, if_neg q, if_neg q]
      have := h.1 t (by omega)
      refine ⟨this.1, fun y hy e => ?_⟩
      rw [a0 y, if_neg (by omega)]
      exact this.2 y hy e
  · have ho2 := op o ho e
    rw [a0 o, if_neg (by omega)]
    exact opk o ho2 e
theorem tt_P3_lf {k : Int32} {i j : Nat} {σ : tt_S} (h1 : tt_P1 σ) (h : tt_P3 f n σ) (hk : tt_tm f n k (nI i) (nI j) 0 0) : (tt_lf k i j σ).1 = true → tt_P3 f n (tt_lf k i j σ).2 := by
  unfold tt_lf
  split
  · intro z; exact Bool.noConfusion z
  split
  · intro z; exact Bool.noConfusion z
  · rename_i q1 q2
    intro _
    obtain ⟨a1, a2, a3, a4⟩ := tt_aT_ok q2
    rw [a4]
    have b := tt_P3_add (k := k) (i := i) (j := j) a2 h1 h hk
    exact ⟨b.1, tt_db_KO (show σ.2.1 + 1 ≤ 4096 by omega) b.2.1⟩
theorem tt_P3_op {k du : Int32} {i j : Nat} {σ : tt_S} (h1 : tt_P1 σ) (h : tt_P3 f n σ) (hk : tt_tm f n k (nI i) (nI j) 0 0) (hd : (k = 3 ∧ (du = 0 ∨ du = 1)) ∨ (k = 4 ∧ (du = 2 ∨ du = 3 ∨ du = 4))) : (tt_op k du i j σ).1 = true → tt_P3 f n (tt_op k du i j σ).2 := by
  unfold tt_op
  split
  · intro z; exact Bool.noConfusion z
  · rename_i q2
    intro _
    obtain ⟨a1, a2, a3, a4⟩ := tt_aT_ok q2
    rw [a3, a4]
    have b := tt_P3_add (k := k) (i := i) (j := j) a2 h1 h hk
    refine ⟨b.1, fun o ho e => ?_⟩
    have e2 : o = σ.2.1 := ((nI_eq (a := σ.2.1) (b := o) (by omega) (by have : o < σ.2.1 + 1 := ho; omega)).mp e).symm
    show (tt_add σ.1 σ.2.1 k σ.2.2.1 i j 0 o = 3 ∧ _) ∨ (tt_add σ.1 σ.2.1 k σ.2.2.1 i j 0 o = 4 ∧ _)
    rw [e2, b.2.2]
    exact hd
theorem tt_tm_mk {k a b c d : Int32} {z : Nat} (h : tt_tm f n k a b c d) (hk : k = 4) (hz : z < n) (ht : tt_tok f n z = 6) : tt_tm f n k a b (nI (z + 1)) (nI (tt_to f n z)) := ⟨h.1, Or.inr ⟨hk, z, hz, ht, rfl, rfl⟩⟩
theorem tt_tm_end {k a b c d : Int32} {y : Nat} (h : tt_tm f n k a b c d) (hk : k = 3) (hy : y ≤ n) : tt_tm f n k a (nI y) c d := by
  obtain ⟨⟨x, h1, h2, -⟩, h3⟩ := h
  exact ⟨⟨x, h1, h2, Or.inr (Or.inr (Or.inl ⟨hk, y, hy, rfl⟩))⟩, h3⟩
theorem tt_P3_take {i : Nat} {σ : tt_S} (h8 : ¬ tt_tok f n i = 8) (h7 : ¬ tt_tok f n i = 7) (h1 : tt_P1 σ) (h : tt_P3 f n σ) : (tt_take (tt_big f n i (tt_to f n i)) (tt_tok f n i) i (tt_to f n i) σ).1 = true → tt_P3 f n (tt_take (tt_big f n i (tt_to f n i)) (tt_tok f n i) i (tt_to f n i) σ).2 := by
  have rg := tt_to_rng h7 h8
  have hin : i < n := by omega
  refine tt_take_cs2 (fun R => R.1 = true → tt_P3 f n R.2) (fun z => Bool.noConfusion z) (fun e b => tt_P3_lf h1 h ?_) (fun e => tt_P3_lf h1 h ?_) (fun e => ?_) (fun e => ?_) ?_ ?_ ?_ (fun e => ?_) (fun e => ?_)
  · exact ⟨⟨i, hin, rfl, Or.inl ⟨rfl, e, rfl, b⟩⟩, Or.inl ⟨rfl, rfl⟩⟩
  · exact ⟨⟨i, hin, rfl, Or.inr (Or.inl ⟨e, rfl, rfl⟩)⟩, Or.inl ⟨rfl, rfl⟩⟩
  · have hk : tt_tm f n 4 (nI i) (nI (tt_to f n i)) 0 0 := ⟨⟨i, hin, rfl, Or.inr (Or.inr (Or.inr ⟨rfl, e, rfl⟩))⟩, Or.inl ⟨rfl, rfl⟩⟩
    unfold tt_tW
    split
    · exact tt_P3_lf h1 h hk
    split
    · exact tt_P3_op h1 h hk (Or.inr ⟨rfl, Or.inr (Or.inl rfl)⟩)
    · intro z; exact Bool.noConfusion z
  · unfold tt_tM
    split
    · intro z; exact Bool.noConfusion z
    · rename_i q
      intro _
      have q := Decidable.of_not_not q
      have hop := tt_Op_ne h1.1 h1.2.2 (by rw [q]; decide) (by rw [q]; decide)
      rcases h1.2.2 with ⟨w, -⟩ | ⟨o, w1, w2, -⟩
      · exact absurd w hop
      have ko : σ.1 0 o = 4 := by
        rcases h.2 o w1 w2 with ⟨-, w⟩ | ⟨w, -⟩
        · rw [q] at w
          rcases w with w | w <;> exact absurd w (by decide)
        · exact w
      have lt := h1.1
      have em : tt_mkR σ.1 σ.2.1 σ.2.2.1 (i + 1) (tt_to f n i) = tt_set (tt_set σ.1 6 o (nI (i + 1))) 7 o (nI (tt_to f n i)) := by
        unfold tt_mkR
        rw [w2, if_pos (tm_has w1 h1.1), nI_clamp (by omega)]
      refine ⟨fun t ht => ?_, fun o' ho' e' => ?_⟩
      · have ht : t < σ.2.1 := ht
        show tt_tm f n (tt_mkR σ.1 σ.2.1 σ.2.2.1 (i + 1) (tt_to f n i) 0 t) (tt_mkR σ.1 σ.2.1 σ.2.2.1 (i + 1) (tt_to f n i) 4 t) (tt_mkR σ.1 σ.2.1 σ.2.2.1 (i + 1) (tt_to f n i) 5 t) (tt_mkR σ.1 σ.2.1 σ.2.2.1 (i + 1) (tt_to f n i) 6 t) (tt_mkR σ.1 σ.2.1 σ.2.2.1 (i + 1) (tt_to f n i) 7 t) ∧ ∀ y, y < t → tt_mkR σ.1 σ.2.1 σ.2.2.1 (i + 1) (tt_to f n i) 1 t = nI y → tt_mkR σ.1 σ.2.1 σ.2.2.1 (i + 1) (tt_to f n i) 0 y = 3 ∨ tt_mkR σ.1 σ.2.1 σ.2.2.1 (i + 1) (tt_to f n i) 0 y = 4
        rw [tt_mkR_k _ _ _ _ _ 0 (by decide) (by decide), tt_mkR_k _ _ _ _ _ 1 (by decide) (by decide), tt_mkR_k _ _ _ _ _ 4 (by decide) (by decide), tt_mkR_k _ _ _ _ _ 5 (by decide) (by decide), em]
        refine ⟨?_, (h.1 t ht).2⟩
        rw [tt_set_get, tt_set_get, tt_set_get, tt_set_get]
        by_cases z : t = o
        · subst z
          simp only [true_and, and_true, if_true]
          simp
          exact tt_tm_mk (h.1 t ht).1 ko hin e
        · simp [z]
          exact (h.1 t ht).1
      · have q2 := h.2 o' ho' e'
        show (tt_mkR σ.1 σ.2.1 σ.2.2.1 (i + 1) (tt_to f n i) 0 o' = 3 ∧ ((4 : Int32) = 0 ∨ (4 : Int32) = 1)) ∨ (tt_mkR σ.1 σ.2.1 σ.2.2.1 (i + 1) (tt_to f n i) 0 o' = 4 ∧ ((4 : Int32) = 2 ∨ (4 : Int32) = 3 ∨ (4 : Int32) = 4))
        rw [tt_mkR_k _ _ _ _ _ 0 (by decide) (by decide)]
        rw [q] at q2
        rcases q2 with ⟨-, w | w⟩ | ⟨w, -⟩
        · exact absurd w (by decide)
        · exact absurd w (by decide)
        · exact Or.inr ⟨w, Or.inr (Or.inr rfl)⟩
  · unfold tt_tO
    split
    · intro z; exact Bool.noConfusion z
    · rename_i q
      intro _
      have a := tt_ia_ne (Bool.not_eq_false _ |>.mp q)
      refine ⟨h.1, fun o ho e => ?_⟩
      rcases h.2 o ho e with ⟨-, w | w⟩ | ⟨w, -⟩
      · exact absurd w a.1
      · exact absurd w a.2
      · exact Or.inr ⟨w, Or.inl rfl⟩
  · unfold tt_tC
    split
    · intro z; exact Bool.noConfusion z
    · rename_i q
      intro _
      have a := tt_ia_ne (Bool.not_eq_false _ |>.mp (fun z => q (Or.inl z)))
      exact tt_P3_close h1 h (tt_Op_ne h1.1 h1.2.2 a.1 a.2)
  · unfold tt_tS
    split
    · intro z; exact Bool.noConfusion z
    · rename_i q
      intro _
      refine ⟨h.1, fun o ho e => ?_⟩
      have du : σ.2.2.2.2 = 1 := Decidable.of_not_not (fun z => q (Or.inr z))
      rcases h.2 o ho e with ⟨w, -⟩ | ⟨-, w⟩
      · exact Or.inl ⟨w, Or.inl rfl⟩
      · rw [du] at w
        rcases w with w | w | w <;> exact absurd w (by decide)
  · have hk : tt_tm f n 3 (nI i) (nI (tt_to f n i)) 0 0 := ⟨⟨i, hin, rfl, Or.inr (Or.inr (Or.inl ⟨rfl, _, rg.2, rfl⟩))⟩, Or.inl ⟨rfl, rfl⟩⟩
    unfold tt_tQ
    split
    · exact tt_P3_op h1 h hk (Or.inl ⟨rfl, Or.inl rfl⟩)
    · intro z; exact Bool.noConfusion z
  · unfold tt_tE
    split
    · intro z; exact Bool.noConfusion z
    · rename_i q
      intro _
      have hop : ¬ σ.2.2.1 = -1 := fun z => q (Or.inl z)
      have hdu : σ.2.2.2.2 = 0 ∨ σ.2.2.2.2 = 1 := by
        by_cases w : σ.2.2.2.2 = 0
        · exact Or.inl w
        · exact Or.inr (Decidable.of_not_not (fun z => q (Or.inr ⟨w, z⟩)))
      rcases h1.2.2 with ⟨w, -⟩ | ⟨o, w1, w2, w3⟩
      · exact absurd w hop
      have ko : σ.1 0 o = 3 := by
        rcases h.2 o w1 w2 with ⟨w, -⟩ | ⟨-, w⟩
        · exact w
        · rcases hdu with u | u <;> rw [u] at w <;> (rcases w with w | w | w <;> exact absurd w (by decide))
      have lt := h1.1
      have em : tt_endR σ.1 σ.2.1 σ.2.2.1 (tt_to f n i) = tt_set σ.1 5 o (nI (tt_to f n i)) := by
        unfold tt_endR
        rw [w2, if_pos (tm_has w1 h1.1), nI_clamp (by omega)]
      refine tt_P3_close (σ := (tt_endR σ.1 σ.2.1 σ.2.2.1 (tt_to f n i), σ.2)) ⟨h1.1, ?_, ?_⟩ ⟨fun t ht => ?_, fun o' ho' e' => ?_⟩ hop
      · show tt_Tr (tt_endR σ.1 σ.2.1 σ.2.2.1 (tt_to f n i) 1) σ.2.1
        rw [tt_endR_1]; exact h1.2.1
      · show tt_Op (tt_endR σ.1 σ.2.1 σ.2.2.1 (tt_to f n i) 1) σ.2.1 σ.2.2.1 σ.2.2.2.2
        rw [tt_endR_1]; exact h1.2.2
      · have ht : t < σ.2.1 := ht
        show tt_tm f n (tt_endR σ.1 σ.2.1 σ.2.2.1 (tt_to f n i) 0 t) (tt_endR σ.1 σ.2.1 σ.2.2.1 (tt_to f n i) 4 t) (tt_endR σ.1 σ.2.1 σ.2.2.1 (tt_to f n i) 5 t) (tt_endR σ.1 σ.2.1 σ.2.2.1 (tt_to f n i) 6 t) (tt_endR σ.1 σ.2.1 σ.2.2.1 (tt_to f n i) 7 t) ∧ ∀ y, y < t → tt_endR σ.1 σ.2.1 σ.2.2.1 (tt_to f n i) 1 t = nI y → tt_endR σ.1 σ.2.1 σ.2.2.1 (tt_to f n i) 0 y = 3 ∨ tt_endR σ.1 σ.2.1 σ.2.2.1 (tt_to f n i) 0 y = 4
        rw [tt_endR_k _ _ _ _ 0 (by decide), tt_endR_k _ _ _ _ 1 (by decide), tt_endR_k _ _ _ _ 4 (by decide), tt_endR_k _ _ _ _ 6 (by decide), tt_endR_k _ _ _ _ 7 (by decide), em]
        refine ⟨?_, (h.1 t ht).2⟩
        rw [tt_set_get]
        by_cases z : t = o
        · subst z
          rw [if_pos ⟨rfl, rfl⟩]
          exact tt_tm_end (h.1 t ht).1 ko rg.2
        · rw [if_neg (fun w => z w.2)]
          exact (h.1 t ht).1
      · show (tt_endR σ.1 σ.2.1 σ.2.2.1 (tt_to f n i) 0 o' = 3 ∧ (σ.2.2.2.2 = 0 ∨ σ.2.2.2.2 = 1)) ∨ (tt_endR σ.1 σ.2.1 σ.2.2.1 (tt_to f n i) 0 o' = 4 ∧ (σ.2.2.2.2 = 2 ∨ σ.2.2.2.2 = 3 ∨ σ.2.2.2.2 = 4))
        rw [tt_endR_k _ _ _ _ 0 (by decide)]
        exact h.2 o' ho' e'
theorem tt_P3_0 (r : Nat → Nat → Int32) : tt_P3 f n (r, 0, -1, 0, 0) := ⟨fun t ht => absurd ht (Nat.not_lt_zero _), fun o ho => absurd ho (Nat.not_lt_zero _)⟩
/-- all that a reading leaves -/
theorem tt_rd_all {r : Nat → Nat → Int32} (hn : n ≤ 16384) (h : tt_rdA f n r = -1) :
    tt_rdN f n r ≤ 4096 ∧ tt_Tr ((tt_rdS f n r).1 1) (tt_rdN f n r) ∧ ∀ t, t < tt_rdN f n r → (tt_rdS f n r).1 2 t = nI (tm_ct ((tt_rdS f n r).1 1) (tt_rdN f n r) t (t + 1)) ∧ (tt_rdS f n r).1 3 t = nI (tm_sz ((tt_rdS f n r).1 1) (tt_rdN f n r) t t) ∧ tt_tm f n ((tt_rdS f n r).1 0 t) ((tt_rdS f n r).1 4 t) ((tt_rdS f n r).1 5 t) ((tt_rdS f n r).1 6 t) ((tt_rdS f n r).1 7 t) := by
  obtain ⟨r', ⟨p1, p2, p3⟩, e⟩ := tt_rd_inv (f := f) (P := fun σ => tt_P1 σ ∧ tt_P2 σ ∧ tt_P3 f n σ) (r := r) hn (fun tk σ p => ⟨tt_P1_cl tk σ p.1, tt_P2_cl tk σ p.2.1, tt_P3_cl tk σ p.1 p.2.2⟩) (fun i σ _ h8 h7 p z => ⟨tt_P1_take p.1 z, tt_P2_take p.1 p.2.1 z, tt_P3_take h8 h7 p.1 p.2.2 z⟩) ⟨tt_P1_0 r, tt_P2_0 r, tt_P3_0 r⟩ h
  have up : ∀ (k : Nat) (q : Nat → Nat → Int32) (m a : Nat), ¬ a = 3 → tt_up m k q a = q a := by
    intro k
    induction k with
    | zero => intro q m a _; rfl
    | succ k ih =>
      intro q m a ha
      rw [tt_up, ih _ _ _ ha]
      unfold tt_upStep
      split
      · funext b
        rw [tt_set_get, if_neg (fun z => ha z.1)]
      · rfl
  have u1 := up (tt_rdN f n r - 1) r' (tt_rdN f n r) 1 (by decide)
  refine ⟨p1.1, ?_, fun t ht => ?_⟩
  · rw [e, u1]
    exact p1.2.1
  · have q2 := p2 t ht
    rw [e, u1, up _ _ _ 0 (by decide), up _ _ _ 2 (by decide), up _ _ _ 4 (by decide), up _ _ _ 5 (by decide), up _ _ _ 6 (by decide), up _ _ _ 7 (by decide)]
    exact ⟨q2.2, tt_up_szN p1.1 p1.2.1 (fun z hz => (p2 z hz).1) t ht, (p3.1 t ht).1⟩
end
