/-! The reference's term(): whether it is made; what it leaves. -/
def tm_nS (f : Nat → Int32) (n x y : Nat) (dg : Nat → Nat) : Bool × (Nat → Nat) × Nat := tm_nl f n y (tm_st0 f n x) (dg, 0)
def tm_num (f : Nat → Int32) (n x y : Nat) (dg : Nat → Nat) : Bool := (tm_nl f n y (tm_st0 f n x) (dg, 0)).1 && decide (tm_bits (tm_nl f n y (tm_st0 f n x) (dg, 0)).2.1 (tm_nl f n y (tm_st0 f n x) (dg, 0)).2.2 ≤ 1024)
def tm_tOK (f : Nat → Int32) (n mc : Nat) (k dp : Int32) (fr tj : Nat) (dg : Nat → Nat) : Bool := !decide (mc = 4096) && !decide (60 ≤ dp) && (!decide (k = 0) || tm_num f n fr tj dg)
def tm_asks (mc : Nat) (k dp : Int32) : Bool := !decide (mc = 4096) && !decide (60 ≤ dp) && decide (k = 0)
def tm_tA (f : Nat → Int32) (n mc : Nat) (k dp : Int32) (fr tj : Nat) (dg : Nat → Nat) : Int32 := if tm_tOK f n mc k dp fr tj dg = true then nI mc else -1
def tm_tN (f : Nat → Int32) (n mc : Nat) (k dp : Int32) (fr tj : Nat) (dg : Nat → Nat) : Nat := if tm_tOK f n mc k dp fr tj dg = true then mc + 1 else mc
def tm_tP (f : Nat → Int32) (n mc : Nat) (k dp : Int32) (fr tj : Nat) (dg : Nat → Nat) (pl : Int32) : Int32 := if tm_tOK f n mc k dp fr tj dg = true then pl else nI fr
def tm_tQ (f : Nat → Int32) (n mc : Nat) (k dp : Int32) (fr tj : Nat) (dg : Nat → Nat) (q : Nat → Nat → Int32) (pa : Int32) : Nat → Nat → Int32 := if tm_tOK f n mc k dp fr tj dg = true then tm_new q mc k pa fr tj else q
def tm_tD (f : Nat → Int32) (n mc : Nat) (k dp : Int32) (fr tj : Nat) (dg : Nat → Nat) (dn : Nat) : Nat := if tm_asks mc k dp = true then (tm_nl f n tj (tm_st0 f n fr) (dg, 0)).2.2 else dn
def tm_tG (f : Nat → Int32) (n mc : Nat) (k dp : Int32) (fr tj : Nat) (dg : Nat → Nat) : Nat → Nat := if tm_asks mc k dp = true then (tm_nl f n tj (tm_st0 f n fr) (dg, 0)).2.1 else dg
