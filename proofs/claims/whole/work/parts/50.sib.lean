/-! Children in their order. -/
section
variable {g : Nat → Int32} {n t c : Nat}
theorem tt_ch_first (hn : n ≤ 4096) (hT : tt_Tr g n) (ht : t < n) (h : 1 < tm_sz g n t t) : g (t + 1) = nI t := by
  have s := tm_sz_sub hn hT ht
  have a : tt_anc g (t + 1) t := (s.2.2 (t + 1) (by omega)).mpr ⟨by omega, by omega⟩
  rcases hT (t + 1) (by omega) with ⟨w, -⟩ | ⟨w1, y, w2, w3, w4⟩
  · omega
  · have b := a.inv' (by omega) w3 w2 (by omega)
    rw [Nat.add_sub_cancel] at w4
    rw [w3, b.anti w4]
theorem tt_ch_sub (hn : n ≤ 4096) (hT : tt_Tr g n) (ht : t < n) (hc : c < n) (h : g c = nI t) (htc : t < c) : c + tm_sz g n c c ≤ t + tm_sz g n t t := by
  have s := tm_sz_sub hn hT ht
  have s2 := tm_sz_sub hn hT hc
  have a : tt_anc g (c + tm_sz g n c c - 1) c := (s2.2.2 _ (by omega)).mpr ⟨by omega, by omega⟩
  have b := (s.2.2 _ (by omega)).mp (a.trans (.up h htc (.refl t)))
  omega
theorem tt_ch_next (hn : n ≤ 4096) (hT : tt_Tr g n) (ht : t < n) (hc : c < n) (h : g c = nI t) (htc : t < c) (hlt : c + tm_sz g n c c < t + tm_sz g n t t) : g (c + tm_sz g n c c) = nI t := by
  have s := tm_sz_sub hn hT ht
  have s2 := tm_sz_sub hn hT hc
  have ae : tt_anc g (c + tm_sz g n c c) t := (s.2.2 _ (by omega)).mpr ⟨by omega, hlt⟩
  have al : tt_anc g (c + tm_sz g n c c - 1) c := (s2.2.2 _ (by omega)).mpr ⟨by omega, by omega⟩
  rcases hT (c + tm_sz g n c c) (by omega) with ⟨w, -⟩ | ⟨w1, y, w2, w3, w4⟩
  · omega
  · have b := ae.inv' (by omega) w3 w2 (by omega)
    rcases tt_anc.both (x := 0) hn _ _ (Nat.le_refl _) (by omega) w4 al with q | q
    · have : tt_anc g (c + tm_sz g n c c) c := .up w3 w2 q
      have := (s2.2.2 _ (by omega)).mp this
      omega
    · by_cases e : c = y
      · have : tt_anc g (c + tm_sz g n c c) c := .up w3 w2 (by rw [← e]; exact .refl c)
        have := (s2.2.2 _ (by omega)).mp this
        omega
      · have q' := q.inv' (by omega) h htc e
        rw [w3, b.anti q']
theorem tt_ch_none (hn : n ≤ 4096) (hT : tt_Tr g n) (hc : c < n) (h : g c = nI t) (htc : t < c) : ∀ d, c < d → d < c + tm_sz g n c c → ¬ g d = nI t := by
  intro d h1 h2 h3
  have s2 := tm_sz_sub hn hT hc
  have a := (s2.2.2 d (by omega)).mpr ⟨by omega, h2⟩
  have b := (a.inv' (by omega) h3 (by omega) (by omega)).le
  omega
/-- a child lies within -/
theorem tt_ch_rng2 (hn : n ≤ 4096) (hT : tt_Tr g n) (ht : t < n) (hc : c < n) (h : g c = nI t) : t < c ∧ c < t + tm_sz g n t t := by
  have s := tm_sz_sub hn hT ht
  rcases hT c hc with ⟨w1, w2⟩ | ⟨w1, y, w2, w3, w4⟩
  · rw [h] at w2
    exact absurd w2 (tt_nIx (by omega))
  · have e : y = t := (nI_eq (by omega) (by omega)).mp (w3.symm.trans h)
    subst e
    exact ⟨w2, ((s.2.2 c hc).mp (.up w3 w2 (.refl y))).2⟩
end
