/-! Known words: the class's rows and the reference's one row hold the same words in the same order. -/
def kw_f {α : Type} (P : α → Bool) : List α → Nat → Int32
  | [], _ => -1
  | t :: ts, nu => if P t = true then nI nu else kw_f P ts (nu + 1)
def kw1 : Nat → Nat → Nat → Nat → Option (List (Nat × Nat × Nat))
  | 0, _, _, _ => none
  | k + 1, i, bg, bh =>
    if i < 11 then
      if bh ≤ st_len.getD (i + 1) 0 then
        if bh < st_len.getD (i + 1) 0 ∧ ¬ st_B (i + 1) bh &&& 255 = 32 then kw1 k i bg (bh + 1)
        else (kw1 k i (bh + 1) (bh + 1)).map (fun r => (i, bg, bh) :: r)
      else kw1 k (i + 1) 0 0
    else some []
def kw2 : Nat → Nat → Nat → Option (List (Nat × Nat))
  | 0, _, _ => none
  | m + 1, bg, k => if k < 645 then (if st_B 15 k &&& 255 = 32 then (kw2 m (k + 1) (k + 1)).map (fun r => (bg, k) :: r) else kw2 m bg (k + 1)) else some []
theorem kw1_ok {f : Nat → Int32} {n x y : Nat} : ∀ (k i bg bh nu : Nat) (W : List (Nat × Nat × Nat)), kw1 k i bg bh = some W → tt_kn f n x y i bg bh nu = kw_f (fun t => tt_same (st_B (t.1 + 1)) t.2.1 t.2.2 f n x y) W nu := by
  intro k
  induction k with
  | zero => intro i bg bh nu W h; simp [kw1] at h
  | succ k ih =>
    intro i bg bh nu W h
    rw [kw1] at h
    rw [tt_kn]
    by_cases c1 : i < 11
    · rw [if_pos c1] at h
      rw [dif_pos c1]
      by_cases c2 : bh ≤ st_len.getD (i + 1) 0
      · rw [if_pos c2] at h
        rw [dif_pos c2]
        by_cases c3 : bh < st_len.getD (i + 1) 0 ∧ ¬ st_B (i + 1) bh &&& 255 = 32
        · rw [if_pos c3] at h
          rw [if_pos c3]
          exact ih _ _ _ _ _ h
        · rw [if_neg c3] at h
          rw [if_neg c3]
          cases hr : kw1 k i (bh + 1) (bh + 1) with
          | none => rw [hr] at h; simp at h
          | some r =>
            rw [hr] at h
            have e : W = (i, bg, bh) :: r := (Option.some.inj h).symm
            rw [e, kw_f, ih _ _ _ (nu + 1) _ hr]
      · rw [if_neg c2] at h
        rw [dif_neg c2]
        exact ih _ _ _ _ _ h
    · rw [if_neg c1] at h
      rw [dif_neg c1]
      have e : W = [] := (Option.some.inj h).symm
      rw [e, kw_f]
theorem kw2_ok {f : Nat → Int32} {x y : Nat} : ∀ (k bg z nu : Nat) (W : List (Nat × Nat)), kw2 k bg z = some W → tm_kn f x y bg z nu = kw_f (fun t => tm_same f x y t.1 t.2) W nu := by
  intro k
  induction k with
  | zero => intro bg z nu W h; simp [kw2] at h
  | succ k ih =>
    intro bg z nu W h
    rw [kw2] at h
    rw [tm_kn]
    by_cases c1 : z < 645
    · rw [if_pos c1] at h
      rw [dif_pos c1]
      by_cases c2 : st_B 15 z &&& 255 = 32
      · rw [if_pos c2] at h
        rw [if_pos c2]
        cases hr : kw2 k (z + 1) (z + 1) with
        | none => rw [hr] at h; simp at h
        | some r =>
          rw [hr] at h
          have e : W = (bg, z) :: r := (Option.some.inj h).symm
          rw [e, kw_f, ih _ _ (nu + 1) _ hr]
      · rw [if_neg c2] at h
        rw [if_neg c2]
        exact ih _ _ _ _ h
    · rw [if_neg c1] at h
      rw [dif_neg c1]
      have e : W = [] := (Option.some.inj h).symm
      rw [e, kw_f]
/-- one word of the class, one of the reference -/
def kw_q (t : Nat × Nat × Nat) (w : Nat × Nat) : Bool :=
  decide (t.2.2 - t.2.1 = w.2 - w.1) && decide (w.1 < w.2) && decide (w.2 ≤ 645) && (List.range (w.2 - w.1)).all (fun j => decide (st_B (t.1 + 1) (t.2.1 + j) &&& 255 = st_B 15 (w.1 + j) &&& 255))
def kw_all : List (Nat × Nat × Nat) → List (Nat × Nat) → Bool
  | [], [] => true
  | t :: ts, w :: ws => kw_q t w && kw_all ts ws
  | _, _ => false
def kw_go : Bool := match kw1 2000 0 0 0, kw2 1000 0 0 with
  | some a, some b => kw_all a b
  | _, _ => false
theorem kw_go_t : kw_go = true := by decide +kernel
theorem st_15 : ∀ j, j < 645 → st_B 15 j &&& 255 = nI (st_B 15 j &&& 255).toNatClampNeg ∧ (st_B 15 j &&& 255).toNatClampNeg < 128 := by decide +kernel
theorem tt_eqF_iff {b f : Nat → Int32} {n x bg bh : Nat} : ∀ (w j : Nat), bh - j ≤ w → (tt_eqF b f n x bg bh j = true ↔ ∀ z, j ≤ z → z < bh → b z &&& 255 = tt_ch f n (x + z - bg)) := by
  intro w
  induction w with
  | zero =>
    intro j h
    rw [tt_eqF, dif_neg (by omega)]
    exact ⟨fun _ z a b => by omega, fun _ => rfl⟩
  | succ w ih =>
    intro j h
    rw [tt_eqF]
    by_cases c : j < bh
    · rw [dif_pos c]
      by_cases e : b j &&& 255 = tt_ch f n (x + j - bg)
      · rw [if_pos e, ih (j + 1) (by omega)]
        refine ⟨fun q z a d => ?_, fun q z a d => q z (by omega) d⟩
        rcases Nat.eq_or_lt_of_le a with y | y
        · rw [← y]; exact e
        · exact q z y d
      · rw [if_neg e]
        exact ⟨fun q => Bool.noConfusion q, fun q => absurd (q j (Nat.le_refl _) c) e⟩
    · rw [dif_neg c]
      exact ⟨fun _ z a b => by omega, fun _ => rfl⟩
theorem tm_wk_iff {f : Nat → Int32} {x bg k : Nat} : ∀ (w j : Nat), k - j ≤ w → j ≤ k → (tm_wk f x bg k j = k ↔ ∀ z, j ≤ z → z < k → f (x + z) = st_B 15 (bg + z) &&& 255) := by
  intro w
  induction w with
  | zero =>
    intro j h h2
    rw [tm_wk, dif_neg (fun z => by omega)]
    exact ⟨fun _ z a b => by omega, fun _ => by omega⟩
  | succ w ih =>
    intro j h h2
    rw [tm_wk]
    by_cases c : j < k ∧ f (x + j) = st_B 15 (bg + j) &&& 255
    · rw [dif_pos c, ih (j + 1) (by omega) (by omega)]
      refine ⟨fun q z a d => ?_, fun q z a d => q z (by omega) d⟩
      rcases Nat.eq_or_lt_of_le a with y | y
      · rw [← y]; exact c.2
      · exact q z y d
    · rw [dif_neg c]
      constructor
      · intro q z a d
        omega
      · intro q
        rcases Nat.eq_or_lt_of_le h2 with y | y
        · exact y
        · exact absurd ⟨y, q j (Nat.le_refl _) y⟩ c
theorem kw_same {f : Nat → Int32} {n x y : Nat} (hf : ∀ k, (f k).toInt8.toInt32 = f k) (hxy : x ≤ y) (hy : y ≤ n) {t : Nat × Nat × Nat} {w : Nat × Nat} (h : kw_q t w = true) : tt_same (st_B (t.1 + 1)) t.2.1 t.2.2 f n x y = tm_same f x y w.1 w.2 := by
  simp only [kw_q, Bool.and_eq_true, decide_eq_true_eq, List.all_eq_true, List.mem_range] at h
  obtain ⟨⟨⟨h1, h2⟩, h3⟩, h4⟩ := h
  unfold tt_same tm_same
  rw [h1]
  by_cases c : w.2 - w.1 = y - x
  · rw [if_pos c, decide_eq_true c, Bool.true_and]
    have a := tt_eqF_iff (b := st_B (t.1 + 1)) (f := f) (n := n) (x := x) (bg := t.2.1) (bh := t.2.2) _ t.2.1 (Nat.le_refl _)
    have b := tm_wk_iff (f := f) (x := x) (bg := w.1) (k := w.2 - w.1) _ 0 (Nat.le_refl _) (Nat.zero_le _)
    have ab : tt_eqF (st_B (t.1 + 1)) f n x t.2.1 t.2.2 t.2.1 = true ↔ tm_wk f x w.1 (w.2 - w.1) 0 = w.2 - w.1 := by
      rw [a, b]
      have one : ∀ z, z < w.2 - w.1 → (st_B (t.1 + 1) (t.2.1 + z) &&& 255 = tt_ch f n (x + z) ↔ f (x + z) = st_B 15 (w.1 + z) &&& 255) := by
        intro z hz
        have s := st_15 (w.1 + z) (by omega)
        have r := tt_chraw (n := n) (i := x + z) hf (by omega) s.2 (tt_b7 _ s.2)
        rw [h4 z hz]
        generalize (st_B 15 (w.1 + z) &&& 255) = v at *
        rw [← s.1] at r
        exact ⟨fun q => r.mpr q.symm, fun q => (r.mp q).symm⟩
      constructor
      · intro q z _ hz
        refine (one z hz).mp ?_
        have := q (t.2.1 + z) (by omega) (by omega)
        rw [show x + (t.2.1 + z) - t.2.1 = x + z by omega] at this
        exact this
      · intro q z hz1 hz2
        have := (one (z - t.2.1) (by omega)).mpr (q (z - t.2.1) (Nat.zero_le _) (by omega))
        rw [show t.2.1 + (z - t.2.1) = z by omega] at this
        rw [show x + z - t.2.1 = x + (z - t.2.1) by omega]
        exact this
    by_cases d : tm_wk f x w.1 (w.2 - w.1) 0 = w.2 - w.1
    · rw [decide_eq_true d, ab.mpr d]
    · rw [decide_eq_false d]
      cases e : tt_eqF (st_B (t.1 + 1)) f n x t.2.1 t.2.2 t.2.1 with
      | false => rfl
      | true => exact absurd (ab.mp e) d
  · rw [if_neg c, decide_eq_false c, Bool.false_and]
    exact (decide_eq_false (by omega)).symm
theorem kw_f_eq {f : Nat → Int32} {n x y : Nat} (hf : ∀ k, (f k).toInt8.toInt32 = f k) (hxy : x ≤ y) (hy : y ≤ n) : ∀ (a : List (Nat × Nat × Nat)) (b : List (Nat × Nat)) (nu : Nat), kw_all a b = true → kw_f (fun t => tt_same (st_B (t.1 + 1)) t.2.1 t.2.2 f n x y) a nu = kw_f (fun t => tm_same f x y t.1 t.2) b nu := by
  intro a
  induction a with
  | nil =>
    intro b nu h
    cases b with
    | nil => rfl
    | cons w ws => exact Bool.noConfusion h
  | cons t ts ih =>
    intro b nu h
    cases b with
    | nil => exact Bool.noConfusion h
    | cons w ws =>
      have h := Bool.and_eq_true _ _ |>.mp (show (kw_q t w && kw_all ts ws) = true from h)
      rw [kw_f, kw_f, kw_same hf hxy hy h.1, ih ws (nu + 1) h.2]
/-- the number of a word -/
theorem tt_kn_eq {f : Nat → Int32} {n x y : Nat} (hf : ∀ k, (f k).toInt8.toInt32 = f k) (hxy : x ≤ y) (hy : y ≤ n) : tt_kn f n x y 0 0 0 0 = tm_kn f x y 0 0 0 := by
  have g := kw_go_t
  unfold kw_go at g
  cases ha : kw1 2000 0 0 0 with
  | none => rw [ha] at g; exact Bool.noConfusion g
  | some a =>
    cases hb : kw2 1000 0 0 with
    | none => rw [ha, hb] at g; exact Bool.noConfusion g
    | some b =>
      rw [ha, hb] at g
      rw [kw1_ok _ _ _ _ 0 _ ha, kw2_ok _ _ _ 0 _ hb]
      exact kw_f_eq hf hxy hy a b 0 g
