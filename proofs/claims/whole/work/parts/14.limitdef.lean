/-! A number's size against the limit, as the class compares them. -/
def tt_cmp (f : Nat → Int32) (n d j : Nat) : Bool := if h : j < 309 then (if tt_ch f n (d + j) = st_B 0 j &&& 255 then tt_cmp f n d (j + 1) else decide (st_B 0 j &&& 255 < tt_ch f n (d + j))) else true
termination_by 309 - j
def tt_big (f : Nat → Int32) (n x y : Nat) : Bool := if y - tt_fd f n x y = 309 then tt_cmp f n (tt_fd f n x y) 0 else decide (309 < y - tt_fd f n x y)
/-! The reading of a text: one step, and the whole run with so many steps left. -/
def tt_take' (f : Nat → Int32) (n : Nat) (tk : Int32) (i j : Nat) (σ : tt_S) : Bool × tt_S := tt_take (tt_big f n i j) tk i j σ
/-- (answer, state) -/
def tt_fin (n : Nat) (σ : tt_S) : Int32 × tt_S := if σ.2.2.1 = -1 ∧ σ.2.2.2.2 = 1 then (-1, (tt_up σ.2.1 (σ.2.1 - 1) σ.1, σ.2)) else (nI n, σ)
def tt_run (f : Nat → Int32) (n : Nat) : Nat → Nat → tt_S → Int32 × tt_S
  | 0, _, σ => tt_fin n σ
  | k + 1, j, σ =>
    if tt_tok f n (tt_bl f n false j) = 8 then tt_fin n (tt_clIt 8 σ)
    else if (tt_take' f n (tt_tok f n (tt_bl f n false j)) (tt_bl f n false j) (tt_to f n (tt_bl f n false j)) (tt_clIt (tt_tok f n (tt_bl f n false j)) σ)).1 = true
    then tt_run f n k (tt_to f n (tt_bl f n false j)) (tt_take' f n (tt_tok f n (tt_bl f n false j)) (tt_bl f n false j) (tt_to f n (tt_bl f n false j)) (tt_clIt (tt_tok f n (tt_bl f n false j)) σ)).2
    else (nI (tt_bl f n false j), (tt_take' f n (tt_tok f n (tt_bl f n false j)) (tt_bl f n false j) (tt_to f n (tt_bl f n false j)) (tt_clIt (tt_tok f n (tt_bl f n false j)) σ)).2)
