/-! Arguments: the class goes from child to child, the reference counts them off. -/
section
variable {g : Nat → Int32} {n t : Nat}
theorem tm_ct_skip {d : Nat} : ∀ (m c : Nat), d - c ≤ m → c ≤ d → d ≤ n → (∀ z, c ≤ z → z < d → ¬ g z = nI t) → tm_ct g n t c = tm_ct g n t d := by
  intro m
  induction m with
  | zero =>
    intro c h1 h2 h3 h4
    rw [show c = d by omega]
  | succ m ih =>
    intro c h1 h2 h3 h4
    rcases Nat.eq_or_lt_of_le h2 with q | q
    · rw [q]
    · rw [tm_ct_in (by omega), if_neg (h4 c (Nat.le_refl _) q), ih (c + 1) (by omega) (by omega) h3 (fun z a b => h4 z (by omega) b)]
      omega
theorem tm_ct_zero {c : Nat} (h : ∀ z, c ≤ z → z < n → ¬ g z = nI t) : tm_ct g n t c = 0 := by
  rcases Nat.lt_or_ge c n with q | q
  · rw [tm_ct_skip (d := n) _ c (Nat.le_refl _) (by omega) (Nat.le_refl _) h, tm_ct_out (by omega)]
  · exact tm_ct_out (by omega)
theorem tm_ag_out {i : Int32} {j c : Nat} (h : ¬ c < n) : tm_ag g n t i j c = -1 := by rw [tm_ag, dif_neg h]
theorem tm_ag_hit {i : Int32} {j c : Nat} (h : c < n) (hc : g c = nI t) (hi : nI j = i) : tm_ag g n t i j c = nI c := by rw [tm_ag, dif_pos h, if_pos hc, if_pos hi]
theorem tm_ag_pass {i : Int32} {j c : Nat} (h : c < n) (hc : g c = nI t) (hi : ¬ nI j = i) : tm_ag g n t i j c = tm_ag g n t i (j + 1) (c + 1) := by rw [tm_ag, dif_pos h, if_pos hc, if_neg hi]
theorem tm_ag_not {i : Int32} {j c : Nat} (h : c < n) (hc : ¬ g c = nI t) : tm_ag g n t i j c = tm_ag g n t i j (c + 1) := by rw [tm_ag, dif_pos h, if_neg hc]
theorem tm_ag_skip {d : Nat} {i : Int32} {j : Nat} : ∀ (m c : Nat), d - c ≤ m → c ≤ d → d ≤ n → (∀ z, c ≤ z → z < d → ¬ g z = nI t) → tm_ag g n t i j c = tm_ag g n t i j d := by
  intro m
  induction m with
  | zero =>
    intro c h1 h2 h3 h4
    rw [show c = d by omega]
  | succ m ih =>
    intro c h1 h2 h3 h4
    rcases Nat.eq_or_lt_of_le h2 with q | q
    · rw [q]
    · rw [tm_ag_not (by omega) (h4 c (Nat.le_refl _) q), ih (c + 1) (by omega) (by omega) h3 (fun z a b => h4 z (by omega) b)]
theorem tm_ag_many {i : Nat} (hi : i < 2 ^ 31) : ∀ (m c j : Nat), n - c ≤ m → j + tm_ct g n t c ≤ i → tm_ag g n t (nI i) j c = -1 := by
  intro m
  induction m with
  | zero =>
    intro c j h1 h2
    exact tm_ag_out (by omega)
  | succ m ih =>
    intro c j h1 h2
    rcases Nat.lt_or_ge c n with q | q
    · rw [tm_ct_in q] at h2
      by_cases w : g c = nI t
      · rw [if_pos w] at h2
        rw [tm_ag_pass q w (fun z => by have := (nI_eq (by omega) hi).mp z; omega)]
        exact ih _ _ (by omega) (by omega)
      · rw [if_neg w] at h2
        rw [tm_ag_not q w]
        exact ih _ _ (by omega) (by omega)
    · exact tm_ag_out (by omega)
theorem tt_cg_ag {s3 : Nat → Int32} (hn : n ≤ 4096) (hT : tt_Tr g n) (ht : t < n) (h3 : ∀ z, z < n → s3 z = nI (tm_sz g n z z)) : ∀ (k c j : Nat), c < n → t < c → g c = nI t → k < tm_ct g n t c → j + k < 2 ^ 31 → tm_ag g n t (nI (j + k)) j c = tt_cg s3 n k (nI c) ∧ tt_has n (tt_cg s3 n k (nI c)) = true := by
  intro k
  induction k with
  | zero =>
    intro c j hc htc hg hk hj
    rw [tm_ag_hit hc hg (by rw [Nat.add_zero]), tt_cg]
    exact ⟨rfl, tm_has hc hn⟩
  | succ k ih =>
    intro c j hc htc hg hk hj
    have s := tm_sz_sub hn hT hc
    have s0 := tm_sz_sub hn hT ht
    have e1 : tm_ct g n t (c + 1) = tm_ct g n t (c + tm_sz g n c c) := tm_ct_skip _ _ (Nat.le_refl _) (by omega) s.2.1 (fun z a b => tt_ch_none hn hT hc hg htc z (by omega) b)
    rw [tm_ct_in hc, if_pos hg, e1] at hk
    have q : c + tm_sz g n c c < t + tm_sz g n t t := by
      rcases Nat.lt_or_ge (c + tm_sz g n c c) (t + tm_sz g n t t) with q | q
      · exact q
      · have := tm_ct_zero (g := g) (n := n) (t := t) (c := c + tm_sz g n c c) (fun z a b w => by have := (tt_ch_rng2 hn hT ht b w).2; omega)
        omega
    have hg2 := tt_ch_next hn hT ht hc hg htc q
    rw [tm_ag_pass hc hg (fun z => by have := (nI_eq (by omega) (by omega)).mp z; omega), tm_ag_skip _ _ (Nat.le_refl _) (show c + 1 ≤ c + tm_sz g n c c by omega) s.2.1 (fun z a b => tt_ch_none hn hT hc hg htc z (by omega) b), tt_cg, tt_in_at hc hn, h3 c hc, nI_add]
    have := ih (c + tm_sz g n c c) (j + 1) (by omega) (by omega) hg2 (by omega) (by omega)
    rw [show j + 1 + k = j + (k + 1) by omega] at this
    exact this
/-- the class's answer is the reference's -/
theorem tt_child_ag {r : Nat → Nat → Int32} {i : Int32} (hn : n ≤ 4096) (hT : tt_Tr g n) (ht : t < n) (h2 : ∀ z, z < n → r 2 z = nI (tm_ct g n z (z + 1))) (h3 : ∀ z, z < n → r 3 z = nI (tm_sz g n z z)) : tt_child r n (nI t) i = if i < 0 then -1 else tm_ag g n t i 0 (t + 1) := by
  unfold tt_child
  by_cases q : i < 0
  · rw [if_pos q, if_pos q]
  · rw [if_neg q, if_neg q]
    obtain ⟨k, hk, rfl⟩ := nI_of q
    have hc : tm_ct g n t (t + 1) < 2 ^ 31 := by
      have : ∀ (m c : Nat), n - c ≤ m → tm_ct g n t c ≤ n - c := by
        intro m
        induction m with
        | zero => intro c h; rw [tm_ct_out (by omega)]; omega
        | succ m ih =>
          intro c h
          rcases Nat.lt_or_ge c n with w | w
          · rw [tm_ct_in w]
            have := ih (c + 1) (by omega)
            split <;> omega
          · rw [tm_ct_out (by omega)]; omega
      have := this _ (t + 1) (Nat.le_refl _)
      omega
    rw [tt_in_at ht hn, h2 t ht, nI_clamp hk]
    rcases Nat.lt_or_ge k (tm_ct g n t (t + 1)) with w | w
    · rw [if_neg (fun z => z (nI_lt w hc))]
      have s := tm_sz_sub hn hT ht
      have h1 : 1 < tm_sz g n t t := by
        rcases Nat.lt_or_ge 1 (tm_sz g n t t) with z | z
        · exact z
        · have := tm_ct_zero (g := g) (n := n) (t := t) (c := t + 1) (fun z a b w => by have := (tt_ch_rng2 hn hT ht b w).2; omega)
          omega
      have a := tt_cg_ag hn hT ht h3 k (t + 1) 0 (by omega) (by omega) (tt_ch_first hn hT ht h1) w (by omega)
      rw [Nat.zero_add] at a
      rw [nI_1 t, if_pos a.2, a.1]
    · rw [if_pos (fun z => by have := (nI_ltI (by omega) hc).mp z; omega), tm_ag_many hk _ _ _ (Nat.le_refl _) (by omega)]
end
/-! What depends on the rows below n alone. -/
theorem tm_ct_cg {g g' : Nat → Int32} {n t : Nat} (e : ∀ z, z < n → g' z = g z) : ∀ (m c : Nat), n - c ≤ m → tm_ct g' n t c = tm_ct g n t c := by
  intro m
  induction m with
  | zero => intro c h; rw [tm_ct_out (by omega), tm_ct_out (by omega)]
  | succ m ih =>
    intro c h
    rcases Nat.lt_or_ge c n with w | w
    · rw [tm_ct_in w, tm_ct_in w, ih (c + 1) (by omega), e c w]
    · rw [tm_ct_out (by omega), tm_ct_out (by omega)]
theorem tm_ag_cg {g g' : Nat → Int32} {n t : Nat} {i : Int32} (e : ∀ z, z < n → g' z = g z) : ∀ (m c j : Nat), n - c ≤ m → tm_ag g' n t i j c = tm_ag g n t i j c := by
  intro m
  induction m with
  | zero => intro c j h; rw [tm_ag_out (by omega), tm_ag_out (by omega)]
  | succ m ih =>
    intro c j h
    rcases Nat.lt_or_ge c n with w | w
    · by_cases q : g c = nI t
      · by_cases q2 : nI j = i
        · rw [tm_ag_hit w q q2, tm_ag_hit w (by rw [e c w]; exact q) q2]
        · rw [tm_ag_pass w q q2, tm_ag_pass w (by rw [e c w]; exact q) q2, ih _ _ (by omega)]
      · rw [tm_ag_not w q, tm_ag_not w (by rw [e c w]; exact q), ih _ _ (by omega)]
    · rw [tm_ag_out (by omega), tm_ag_out (by omega)]
theorem tt_Tr_cg {g g' : Nat → Int32} {n : Nat} (e : ∀ z, z < n → g' z = g z) (h : tt_Tr g n) : tt_Tr g' n := fun t ht => by
  rw [e t ht]
  rcases h t ht with w | ⟨w1, y, w2, w3, w4⟩
  · exact Or.inl w
  · exact Or.inr ⟨w1, y, w2, w3, w4.congr e (by omega)⟩
theorem tm_sz_cg {g g' : Nat → Int32} {n t : Nat} (hn : n ≤ 4096) (hT : tt_Tr g n) (ht : t < n) (e : ∀ z, z < n → g' z = g z) : ∀ (m c : Nat), n - c ≤ m → tm_sz g' n t c = tm_sz g n t c := by
  intro m
  induction m with
  | zero => intro c h; rw [tm_sz_out (by omega), tm_sz_out (by omega)]
  | succ m ih =>
    intro c h
    rcases Nat.lt_or_ge c n with w | w
    · have a := tm_rt_anc hn hT ht _ c (Nat.le_refl _) w
      have b := tm_rt_anc hn (tt_Tr_cg e hT) ht _ c (Nat.le_refl _) w
      have : tm_rt g' t (nI c) = nI t ↔ tm_rt g t (nI c) = nI t := by
        rw [a, b]
        exact ⟨fun z => z.congr (fun x hx => (e x hx).symm) w, fun z => z.congr e w⟩
      rw [tm_sz_in w, tm_sz_in w, ih (c + 1) (by omega)]
      by_cases q : tm_rt g t (nI c) = nI t
      · rw [if_pos q, if_pos (this.mpr q)]
      · rw [if_neg q, if_neg (fun z => q (this.mp z))]
    · rw [tm_sz_out (by omega), tm_sz_out (by omega)]
