/-! Known words, as the class and as the reference look them up. -/
theorem st_lenb : ∀ i, i < 11 → st_len.getD (i + 1) 0 ≤ 68 := by decide +kernel
def tt_eqF (b : Nat → Int32) (f : Nat → Int32) (n x bg bh j : Nat) : Bool := if h : j < bh then (if b j &&& 255 = tt_ch f n (x + j - bg) then tt_eqF b f n x bg bh (j + 1) else false) else true
termination_by bh - j
def tt_same (b : Nat → Int32) (bg bh : Nat) (f : Nat → Int32) (n x y : Nat) : Bool := decide (bh - bg = y - x) && tt_eqF b f n x bg bh bg
def tt_kn (f : Nat → Int32) (n x y i bg bh nu : Nat) : Int32 :=
  if h : i < 11 then
    if h2 : bh ≤ st_len.getD (i + 1) 0 then
      if bh < st_len.getD (i + 1) 0 ∧ ¬ st_B (i + 1) bh &&& 255 = 32 then tt_kn f n x y i bg (bh + 1) nu
      else if tt_same (st_B (i + 1)) bg bh f n x y = true then nI nu else tt_kn f n x y i (bh + 1) (bh + 1) (nu + 1)
    else tt_kn f n x y (i + 1) 0 0 nu
  else -1
termination_by (11 - i, st_len.getD (i + 1) 0 + 1 - bh)
decreasing_by
  · exact Prod.Lex.right _ (by omega)
  · exact Prod.Lex.right _ (by omega)
  · exact Prod.Lex.left _ _ (by omega)
def tm_wk (f : Nat → Int32) (x bg m k : Nat) : Nat := if h : k < m ∧ f (x + k) = st_B 15 (bg + k) &&& 255 then tm_wk f x bg m (k + 1) else k
termination_by m - k
decreasing_by omega
def tm_same (f : Nat → Int32) (x y bg bh : Nat) : Bool := decide ((if bh - bg = y - x then tm_wk f x bg (bh - bg) 0 else 0) = bh - bg)
def tm_kn (f : Nat → Int32) (x y bg k nu : Nat) : Int32 := if h : k < 645 then (if st_B 15 k &&& 255 = 32 then (if tm_same f x y bg k = true then nI nu else tm_kn f x y (k + 1) (k + 1) (nu + 1)) else tm_kn f x y bg (k + 1) nu) else -1
termination_by 645 - k
