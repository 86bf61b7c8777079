/-! A term's subtree is an interval. -/
theorem tt_anc.inv {g : Nat → Int32} {x o : Nat} (h : tt_anc g x o) : x = o ∨ ∃ y, y < x ∧ g x = nI y ∧ tt_anc g y o := by
  obtain ⟨k, h⟩ := h
  cases k with
  | zero => exact Or.inl h
  | succ k =>
    rcases h with e | ⟨y, hy, e, h⟩
    · exact Or.inl e
    · exact Or.inr ⟨y, hy, e, k, h⟩
theorem tt_anc.inv' {g : Nat → Int32} {x o y : Nat} (h : tt_anc g x o) (hx : x ≤ 4096) (e : g x = nI y) (hy : y < x) (hne : ¬ x = o) : tt_anc g y o := by
  rcases h.inv with w | ⟨z, w1, w2, w3⟩
  · exact absurd w hne
  · have : z = y := (nI_eq (by omega) (by omega)).mp (w2.symm.trans e)
    rw [← this]; exact w3
theorem tt_anc.trans {g : Nat → Int32} {x y o : Nat} (h : tt_anc g x y) : tt_anc g y o → tt_anc g x o := h.go (P := fun x y => tt_anc g y o → tt_anc g x o) (fun _ h => h) (fun x y o h hy _ ih q => .up h hy (ih q))
/-- two that stand above one term -/
theorem tt_anc.both {g : Nat → Int32} {n x a b : Nat} (hn : n ≤ 4096) : ∀ (m x : Nat), x ≤ m → x < n → tt_anc g x a → tt_anc g x b → tt_anc g a b ∨ tt_anc g b a := by
  intro m
  induction m with
  | zero =>
    intro x h1 h2 ha hb
    have := ha.le
    have := hb.le
    have e1 : a = x := by omega
    rw [e1]; exact Or.inl hb
  | succ m ih =>
    intro x h1 h2 ha hb
    rcases ha.inv with w | ⟨y, w1, w2, w3⟩
    · rw [← w]; exact Or.inl hb
    · by_cases q : x = b
      · rw [← q]; exact Or.inr ha
      · exact ih y (by omega) (by omega) w3 (hb.inv' (by omega) w2 w1 q)
theorem tt_anc.anti {g : Nat → Int32} {a b : Nat} (h1 : tt_anc g a b) (h2 : tt_anc g b a) : a = b := Nat.le_antisymm h2.le h1.le
theorem tt_anc_prev {g : Nat → Int32} {n x t : Nat} (hn : n ≤ 4096) (hT : tt_Tr g n) (hx : x < n) (h : tt_anc g x t) (hne : ¬ x = t) : tt_anc g (x - 1) t := by
  rcases hT x hx with ⟨w, -⟩ | ⟨w1, y, w2, w3, w4⟩
  · have := h.le
    omega
  · exact w4.trans (h.inv' (by omega) w3 w2 hne)
theorem tt_anc_mid {g : Nat → Int32} {n t b : Nat} (hn : n ≤ 4096) (hT : tt_Tr g n) (hb : t ≤ b) : ∀ (m x : Nat), x - b ≤ m → b ≤ x → x < n → tt_anc g x t → tt_anc g b t := by
  intro m
  induction m with
  | zero =>
    intro x h1 h2 h3 h
    have : x = b := by omega
    rw [← this]; exact h
  | succ m ih =>
    intro x h1 h2 h3 h
    by_cases q : x = b
    · rw [← q]; exact h
    · exact ih (x - 1) (by omega) (by omega) (by omega) (tt_anc_prev hn hT h3 h (by omega))
theorem tm_rt_anc {g : Nat → Int32} {n t : Nat} (hn : n ≤ 4096) (hT : tt_Tr g n) (ht : t < n) : ∀ (m x : Nat), x ≤ m → x < n → (tm_rt g t (nI x) = nI t ↔ tt_anc g x t) := by
  intro m
  induction m with
  | zero =>
    intro x h1 h2
    have : x = 0 := by omega
    subst this
    rw [tm_rt_st (nI_le (Nat.zero_le _) (by omega))]
    constructor
    · intro z
      rw [(nI_eq (by omega) (by omega)).mp z]
      exact .refl t
    · intro z
      have := z.le
      rw [show t = 0 by omega]
  | succ m ih =>
    intro x h1 h2
    rcases Nat.lt_or_ge t x with q | q
    · rcases hT x h2 with ⟨w, -⟩ | ⟨w1, y, w2, w3, w4⟩
      · omega
      · have e := tm_rt_go (p := g) (t := t) (x := nI x) (by rw [nI_toInt (by omega)]; omega) (nI_ge q (by omega)) (by rw [nI_clamp (by omega), w3, nI_toInt (by omega), nI_toInt (by omega)]; omega)
        rw [nI_clamp (by omega), w3] at e
        rw [← e, ih y (by omega) (by omega)]
        exact ⟨fun z => .up w3 w2 z, fun z => z.inv' (by omega) w3 w2 (by omega)⟩
    · rw [tm_rt_st (nI_le q (by omega))]
      constructor
      · intro z
        rw [(nI_eq (by omega) (by omega)).mp z]
        exact .refl t
      · intro z
        have := z.le
        rw [show x = t by omega]
theorem tm_sz_out {g : Nat → Int32} {n t c : Nat} (h : ¬ c < n) : tm_sz g n t c = 0 := by rw [tm_sz, dif_neg h]
theorem tm_sz_in {g : Nat → Int32} {n t c : Nat} (h : c < n) : tm_sz g n t c = (if tm_rt g t (nI c) = nI t then 1 else 0) + tm_sz g n t (c + 1) := by rw [tm_sz, dif_pos h]
theorem tm_sz_iv {g : Nat → Int32} {n t : Nat} (hn : n ≤ 4096) (hT : tt_Tr g n) (ht : t < n) : ∀ (m c : Nat), n - c ≤ m → t ≤ c → c ≤ n → c + tm_sz g n t c ≤ n ∧ ∀ b, c ≤ b → b < n → (tt_anc g b t ↔ b < c + tm_sz g n t c) := by
  intro m
  induction m with
  | zero =>
    intro c h1 h2 h3
    rw [tm_sz_out (by omega)]
    exact ⟨by omega, fun b h4 h5 => by omega⟩
  | succ m ih =>
    intro c h1 h2 h3
    rcases Nat.lt_or_ge c n with q | q
    · have a := ih (c + 1) (by omega) (by omega) (by omega)
      have r := tm_rt_anc hn hT ht c c (Nat.le_refl _) q
      rw [tm_sz_in q]
      by_cases w : tt_anc g c t
      · rw [if_pos (r.mpr w)]
        refine ⟨by omega, fun b h4 h5 => ?_⟩
        rcases Nat.eq_or_lt_of_le h4 with e | e
        · subst e
          exact ⟨fun _ => by omega, fun _ => w⟩
        · rw [a.2 b e h5]
          omega
      · rw [if_neg (fun z => w (r.mp z))]
        have none : ∀ b, c ≤ b → b < n → ¬ tt_anc g b t := fun b h4 h5 h6 => w (tt_anc_mid hn hT h2 _ b (Nat.le_refl _) h4 h5 h6)
        have z : tm_sz g n t (c + 1) = 0 := by
          rcases Nat.eq_zero_or_pos (tm_sz g n t (c + 1)) with z | z
          · exact z
          · exact absurd ((a.2 (c + 1) (Nat.le_refl _) (by omega)).mpr (by omega)) (none _ (by omega) (by omega))
        rw [z]
        exact ⟨by omega, fun b h4 h5 => ⟨fun h6 => absurd h6 (none b h4 h5), fun h6 => by omega⟩⟩
    · rw [tm_sz_out (by omega)]
      exact ⟨by omega, fun b h4 h5 => by omega⟩
/-- the subtree of t -/
theorem tm_sz_sub {g : Nat → Int32} {n t : Nat} (hn : n ≤ 4096) (hT : tt_Tr g n) (ht : t < n) : 0 < tm_sz g n t t ∧ t + tm_sz g n t t ≤ n ∧ ∀ b, b < n → (tt_anc g b t ↔ t ≤ b ∧ b < t + tm_sz g n t t) := by
  have a := tm_sz_iv hn hT ht _ t (Nat.le_refl _) (Nat.le_refl _) (by omega)
  have b := (a.2 t (Nat.le_refl _) ht).mp (.refl t)
  refine ⟨by omega, a.1, fun z hz => ⟨fun h => ⟨h.le, (a.2 z h.le hz).mp h⟩, fun h => (a.2 z h.1 hz).mpr h.2⟩⟩
