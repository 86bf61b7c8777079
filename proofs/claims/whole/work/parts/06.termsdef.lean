/-! The terms' rows (0 kinds, 1 parents, 2 inside, 3 sizes, 4 froms, 5 tos, 6 markFroms, 7 markTos) and the grammar's state, as pure words. -/
def tt_set (r : Nat → Nat → Int32) (k t : Nat) (v : Int32) : Nat → Nat → Int32 := fun a => if a = k then upd (r a) t v else r a
def tt_has (n : Nat) (x : Int32) : Bool := !decide (x < 0) && !decide (nI n ≤ x)
def tt_in (g : Nat → Int32) (n : Nat) (x : Int32) : Int32 := if x < 0 then -1 else if nI n ≤ x then -1 else if nI 4096 ≤ x then -1 else g x.toNatClampNeg
theorem tt_vin {x : Int32} {n N : Nat} (h0 : ¬ x < 0) (h : ¬ nI n ≤ x) (hn : n ≤ N) (hN : N < 2 ^ 31) : vp_in x N := by
  obtain ⟨j, hj, rfl⟩ := nI_of h0
  rcases Nat.lt_or_ge j n with q | q
  · exact vp_in_nI (by omega) hN
  · exact absurd (nI_le q (by omega)) h
/-- a new term's rows, ahead of its parent's count -/
def tt_new (r : Nat → Nat → Int32) (n : Nat) (k p : Int32) (i j : Nat) : Nat → Nat → Int32 :=
  tt_set (tt_set (tt_set (tt_set (tt_set (tt_set (tt_set (tt_set r 0 n k) 1 n p) 2 n 0) 3 n 1) 4 n (nI i)) 5 n (nI j)) 6 n 0) 7 n 0
def tt_add (r : Nat → Nat → Int32) (n : Nat) (k p : Int32) (i j : Nat) : Nat → Nat → Int32 :=
  if 4096 ≤ n then r else if p < 0 then tt_new r n k p i j else if nI n ≤ p then tt_new r n k p i j
  else tt_set (tt_new r n k p i j) 2 p.toNatClampNeg (tt_new r n k p i j 2 p.toNatClampNeg + 1)
def tt_addn (n : Nat) : Nat := if 4096 ≤ n then n else n + 1
def tt_addr (n : Nat) : Int32 := if 4096 ≤ n then -1 else nI n
def tt_endR (r : Nat → Nat → Int32) (n : Nat) (x : Int32) (j : Nat) : Nat → Nat → Int32 := if tt_has n x = true then tt_set r 5 x.toNatClampNeg (nI j) else r
def tt_mkR (r : Nat → Nat → Int32) (n : Nat) (x : Int32) (i j : Nat) : Nat → Nat → Int32 := if tt_has n x = true then tt_set (tt_set r 6 x.toNatClampNeg (nI i)) 7 x.toNatClampNeg (nI j) else r
theorem tt_hasv {n : Nat} {x : Int32} (h : tt_has n x = true) (hn : n ≤ 4096) : vp_in x 4096 := by
  simp only [tt_has, Bool.and_eq_true, Bool.not_eq_true', decide_eq_false_iff_not] at h
  exact tt_vin h.1 h.2 hn (by decide)
def tt_upStep (r : Nat → Nat → Int32) (n t : Nat) : Nat → Nat → Int32 := if tt_has n (r 1 t) = true then tt_set r 3 (r 1 t).toNatClampNeg (r 3 (r 1 t).toNatClampNeg + r 3 t) else r
def tt_up (n : Nat) : Nat → (Nat → Nat → Int32) → Nat → Nat → Int32
  | 0, r => r
  | t + 1, r => tt_up n t (tt_upStep r n (t + 1))
def tt_cg (g : Nat → Int32) (n : Nat) : Nat → Int32 → Int32
  | 0, c => c
  | k + 1, c => tt_cg g n k (c + tt_in g n c)
def tt_child (r : Nat → Nat → Int32) (n : Nat) (x i : Int32) : Int32 :=
  if i < 0 then -1 else if ¬ i < tt_in (r 2) n x then -1
  else if tt_has n (tt_cg (r 3) n i.toNatClampNeg (x + 1)) = true then tt_cg (r 3) n i.toNatClampNeg (x + 1) else -1
/-! The reader's state: rows, how many, open, depth, due. -/
abbrev tt_S : Type := (Nat → Nat → Int32) × Nat × Int32 × Int32 × Int32
def tt_ia (du : Int32) : Bool := decide (du = 3) || decide (du = 4)
def tt_ip (r : Nat → Nat → Int32) (n : Nat) (op : Int32) : Bool := decide (tt_in (r 0) n (tt_in (r 1) n op) = 4)
def tt_db (r : Nat → Nat → Int32) (n : Nat) (op : Int32) : Int32 := if tt_in (r 0) n op = 4 then 4 else 1
def tt_close (σ : tt_S) : tt_S := (σ.1, σ.2.1, tt_in (σ.1 1) σ.2.1 σ.2.2.1, σ.2.2.2.1 - 1, tt_db σ.1 σ.2.1 (tt_in (σ.1 1) σ.2.1 σ.2.2.1))
def tt_clIt (tk : Int32) (σ : tt_S) : tt_S := if (tk = 59 ∨ tk = 125 ∨ tk = 8) ∧ tt_ia σ.2.2.2.2 = true ∧ tt_ip σ.1 σ.2.1 σ.2.2.1 = false then tt_close σ else σ
/-- addTerm: the answer, rows, count -/
def tt_aT (k : Int32) (i j : Nat) (σ : tt_S) : Int32 := if ¬ σ.2.2.2.1 < 60 then -1 else tt_addr σ.2.1
def tt_aS (k : Int32) (i j : Nat) (σ : tt_S) : tt_S := if ¬ σ.2.2.2.1 < 60 then σ else (tt_add σ.1 σ.2.1 k σ.2.2.1 i j, tt_addn σ.2.1, σ.2.2)
def tt_op (k du : Int32) (i j : Nat) (σ : tt_S) : Bool × tt_S :=
  if tt_aT k i j σ = -1 then (false, tt_aS k i j σ) else (true, ((tt_aS k i j σ).1, (tt_aS k i j σ).2.1, tt_aT k i j σ, σ.2.2.2.1 + 1, du))
def tt_lf (k : Int32) (i j : Nat) (σ : tt_S) : Bool × tt_S :=
  if ¬ σ.2.2.2.2 = 0 ∧ tt_ia σ.2.2.2.2 = false then (false, σ)
  else if tt_aT k i j σ = -1 then (false, tt_aS k i j σ)
  else (true, ((tt_aS k i j σ).1, (tt_aS k i j σ).2.1, σ.2.2.1, σ.2.2.2.1, tt_db (tt_aS k i j σ).1 (tt_aS k i j σ).2.1 σ.2.2.1))
def tt_tW (i j : Nat) (σ : tt_S) : Bool × tt_S :=
  if tt_ia σ.2.2.2.2 = true then tt_lf 4 i j σ else if σ.2.2.2.2 = 0 ∨ σ.2.2.2.2 = 2 then tt_op 4 3 i j σ else (false, σ)
def tt_tM (i j : Nat) (σ : tt_S) : Bool × tt_S :=
  if ¬ σ.2.2.2.2 = 3 then (false, σ) else (true, (tt_mkR σ.1 σ.2.1 σ.2.2.1 (i + 1) j, σ.2.1, σ.2.2.1, σ.2.2.2.1, 4))
def tt_tQ (i j : Nat) (σ : tt_S) : Bool × tt_S := if σ.2.2.2.2 = 0 ∨ tt_ia σ.2.2.2.2 = true then tt_op 3 0 i j σ else (false, σ)
def tt_tE (j : Nat) (σ : tt_S) : Bool × tt_S :=
  if σ.2.2.1 = -1 ∨ (¬ σ.2.2.2.2 = 0 ∧ ¬ σ.2.2.2.2 = 1) then (false, σ) else (true, tt_close (tt_endR σ.1 σ.2.1 σ.2.2.1 j, σ.2))
def tt_tS (σ : tt_S) : Bool × tt_S := if σ.2.2.1 = -1 ∨ ¬ σ.2.2.2.2 = 1 then (false, σ) else (true, (σ.1, σ.2.1, σ.2.2.1, σ.2.2.2.1, 0))
def tt_tO (σ : tt_S) : Bool × tt_S := if tt_ia σ.2.2.2.2 = false then (false, σ) else (true, (σ.1, σ.2.1, σ.2.2.1, σ.2.2.2.1, 2))
def tt_tC (σ : tt_S) : Bool × tt_S := if tt_ia σ.2.2.2.2 = false ∨ tt_ip σ.1 σ.2.1 σ.2.2.1 = false then (false, σ) else (true, tt_close σ)
theorem tt_lti {i : Int32} {j : Nat} (h0 : ¬ i < 0) (h : ¬ i ≤ nI j) (hj : j ≤ i.toNatClampNeg) : j + 1 ≤ i.toNatClampNeg := by
  obtain ⟨k, hk, rfl⟩ := nI_of h0
  rw [nI_clamp hk] at hj ⊢
  rcases Nat.lt_or_ge j k with q | q
  · exact q
  · exact absurd (nI_le q (by omega)) h
theorem tt_gti {i : Int32} {j : Nat} (h0 : ¬ i < 0) (h : i ≤ nI j) (hj : j ≤ i.toNatClampNeg) : i.toNatClampNeg - j = 0 := by
  obtain ⟨k, hk, rfl⟩ := nI_of h0
  rw [nI_clamp hk] at hj ⊢
  have := (nI_leI hk (by omega)).mp h
  omega
theorem tt_cgs {g : Nat → Int32} {n : Nat} {i y : Int32} {j : Nat} (h0 : ¬ i < 0) (h : ¬ i ≤ nI j) (hj : j ≤ i.toNatClampNeg) : tt_cg g n (i.toNatClampNeg - j) y = tt_cg g n (i.toNatClampNeg - (j + 1)) (y + tt_in g n y) := by
  have := tt_lti h0 h hj
  rw [show i.toNatClampNeg - j = (i.toNatClampNeg - (j + 1)) + 1 by omega, tt_cg]
def tt_take (big : Bool) (tk : Int32) (i j : Nat) (σ : tt_S) : Bool × tt_S :=
  if tk = 0 then (if big = true then (false, σ) else tt_lf 0 i j σ)
  else if tk = 1 then tt_lf tk i j σ else if tk = 2 then tt_lf tk i j σ
  else if tk = 5 then tt_tW i j σ else if tk = 6 then tt_tM i j σ
  else if tk = 40 then tt_tO σ else if tk = 41 then tt_tC σ else if tk = 59 then tt_tS σ
  else if tk = 123 then tt_tQ i j σ else if tk = 125 then tt_tE j σ else (false, σ)
theorem tt_aS2 (k : Int32) (i j : Nat) (σ : tt_S) : (tt_aS k i j σ).2.2 = σ.2.2 := by
  unfold tt_aS
  split <;> rfl
