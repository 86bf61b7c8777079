/-! The tree of a reading: parents stand before their terms, and on the way up from the term before. -/
def tt_ancF (g : Nat → Int32) : Nat → Nat → Nat → Prop
  | 0, x, o => x = o
  | k + 1, x, o => x = o ∨ ∃ y, y < x ∧ g x = nI y ∧ tt_ancF g k y o
def tt_anc (g : Nat → Int32) (x o : Nat) : Prop := ∃ k, tt_ancF g k x o
theorem tt_anc.refl {g : Nat → Int32} (x : Nat) : tt_anc g x x := ⟨0, rfl⟩
theorem tt_anc.up {g : Nat → Int32} {x y o : Nat} (h : g x = nI y) (hy : y < x) (a : tt_anc g y o) : tt_anc g x o := by
  obtain ⟨k, a⟩ := a
  exact ⟨k + 1, Or.inr ⟨y, hy, h, a⟩⟩
/-- along the way up -/
theorem tt_anc.go {g : Nat → Int32} {P : Nat → Nat → Prop} (h0 : ∀ x, P x x) (h1 : ∀ x y o, g x = nI y → y < x → tt_anc g y o → P y o → P x o) {x o : Nat} (h : tt_anc g x o) : P x o := by
  obtain ⟨k, h⟩ := h
  induction k generalizing x with
  | zero => have e : x = o := h; rw [e]; exact h0 o
  | succ k ih =>
    rcases h with e | ⟨y, hy, e, h⟩
    · rw [e]; exact h0 o
    · exact h1 x y o e hy ⟨k, h⟩ (ih h)
theorem tt_anc.le {g : Nat → Int32} {x o : Nat} (h : tt_anc g x o) : o ≤ x := h.go (P := fun x o => o ≤ x) (fun _ => Nat.le_refl _) (fun x y o _ hy _ ih => by omega)
theorem tt_anc.congr {g g' : Nat → Int32} {n x o : Nat} (h : tt_anc g x o) (e : ∀ t, t < n → g' t = g t) : x < n → tt_anc g' x o := h.go (P := fun x o => x < n → tt_anc g' x o) (fun x _ => .refl x) (fun x y o h hy _ ih hx => .up (by rw [e _ hx]; exact h) hy (ih (by omega)))
theorem tt_anc.up1 {g : Nat → Int32} {x o y : Nat} (h : tt_anc g x o) : g o = nI y → y < o → tt_anc g x y := h.go (P := fun x o => g o = nI y → y < o → tt_anc g x y) (fun x e hy => .up e hy (.refl y)) (fun x z o h hz _ ih e hy => .up h hz (ih e hy))
def tt_Tr (g : Nat → Int32) (n : Nat) : Prop := ∀ t, t < n → (t = 0 ∧ g t = -1) ∨ (0 < t ∧ ∃ y, y < t ∧ g t = nI y ∧ tt_anc g (t - 1) y)
def tt_Op (g : Nat → Int32) (n : Nat) (op du : Int32) : Prop := (op = -1 ∧ ((n = 0 ∧ du = 0) ∨ du = 1)) ∨ ∃ o, o < n ∧ op = nI o ∧ tt_anc g (n - 1) o
theorem tt_add_1 {r : Nat → Nat → Int32} {n : Nat} {k p : Int32} {i j : Nat} (hn : ¬ 4096 ≤ n) : ∀ t, tt_add r n k p i j 1 t = if t = n then p else r 1 t := by
  intro t
  have h : tt_new r n k p i j 1 t = if t = n then p else r 1 t := by
    unfold tt_new
    simp [tt_set_get]
  unfold tt_add
  rw [if_neg hn]
  split
  · exact h
  split
  · exact h
  · rw [tt_set_get, if_neg (fun z => absurd z.1 (by decide))]
    exact h
theorem tt_Tr_add {r : Nat → Nat → Int32} {n : Nat} {k op du : Int32} {i j : Nat} (hn : ¬ 4096 ≤ n) (hT : tt_Tr (r 1) n) (hO : tt_Op (r 1) n op du) (hd : ¬ du = 1) : tt_Tr (tt_add r n k op i j 1) (n + 1) ∧ (∀ du', (op = -1 → du' = 1) → tt_Op (tt_add r n k op i j 1) (n + 1) op du') ∧ ∀ du', tt_Op (tt_add r n k op i j 1) (n + 1) (nI n) du' := by
  have e := tt_add_1 (r := r) (n := n) (k := k) (p := op) (i := i) (j := j) hn
  have c : ∀ t, t < n → tt_add r n k op i j 1 t = r 1 t := fun t ht => by rw [e t, if_neg (by omega)]
  have en : tt_add r n k op i j 1 n = op := by rw [e n, if_pos rfl]
  refine ⟨fun t ht => ?_, fun du' h1 => ?_, fun du' => Or.inr ⟨n, by omega, rfl, by rw [Nat.add_sub_cancel]; exact .refl n⟩⟩
  · rcases Nat.lt_or_ge t n with q | q
    · rw [c t q]
      rcases hT t q with w | ⟨w1, y, w2, w3, w4⟩
      · exact Or.inl w
      · exact Or.inr ⟨w1, y, w2, w3, w4.congr c (by omega)⟩
    · have : t = n := by omega
      subst this
      rw [en]
      rcases hO with ⟨w1, w2⟩ | ⟨o, w1, w2, w3⟩
      · rcases w2 with w2 | w2
        · exact Or.inl ⟨w2.1, w1⟩
        · exact absurd w2 hd
      · exact Or.inr ⟨by omega, o, w1, w2, w3.congr c (by omega)⟩
  · rcases hO with ⟨w1, w2⟩ | ⟨o, w1, w2, w3⟩
    · exact Or.inl ⟨w1, Or.inr (h1 w1)⟩
    · exact Or.inr ⟨o, by omega, w2, by rw [Nat.add_sub_cancel]; exact .up (by rw [en]; exact w2) w1 (.refl o)⟩
/-- closing -/
theorem tt_Op_close {r : Nat → Nat → Int32} {n : Nat} {op du : Int32} (hn : n ≤ 4096) (hT : tt_Tr (r 1) n) (hO : tt_Op (r 1) n op du) (hop : ¬ op = -1) : tt_Op (r 1) n (tt_in (r 1) n op) (tt_db r n (tt_in (r 1) n op)) := by
  rcases hO with ⟨w1, w2⟩ | ⟨o, w1, w2, w3⟩
  · exact absurd w1 hop
  · rw [w2, tt_in_at w1 hn]
    rcases hT o w1 with ⟨q1, q2⟩ | ⟨q1, y, q2, q3, q4⟩
    · rw [q2]
      exact Or.inl ⟨rfl, Or.inr (by unfold tt_db; rw [tt_in_lo (by decide)]; decide)⟩
    · rw [q3]
      exact Or.inr ⟨y, by omega, rfl, w3.up1 q3 q2⟩
