/-! What the Statement gives of the String constants at the start. -/
def st_tm (i : Nat) : Term := .string (st_own.getD i "") (st_idx.getD i 0)
def st_val (i : Nat) : Term := .field (st_tm i) "java/lang/String" "value" "[B"
def st_row (i : Nat) : List Cond := [.exactly (st_tm i) "java/lang/String", .eq (.field (st_tm i) "java/lang/String" "coder" "B") (.int 0), .arrayOf (st_val i) .byte, .eq (.length (st_val i)) (.int (Int32.ofNat (st_len.getD i 0)))] ++ (List.range (st_len.getD i 0)).map (fun j => .eq (.elem (st_val i) (.int (Int32.ofNat j))) (.int (st_B i j)))
def st_blk (i : Nat) : List Cond := st_row i ++ (List.range i).map (fun j => .not (.eq (st_tm j) (st_tm i)))
set_option maxRecDepth 1000000 in
theorem st_flat : (flatC narrow_1).drop 25 = ((List.range 16).map st_blk).flatten := by decide +kernel
theorem st_in {c : Cond} {i : Nat} (hi : i < 16) (h : c ∈ st_row i) : c ∈ flatC narrow_1 := by
  refine List.mem_of_mem_drop (i := 25) ?_
  rw [st_flat]
  exact List.mem_flatten.mpr ⟨st_blk i, List.mem_map.mpr ⟨i, List.mem_range.mpr hi, rfl⟩, List.mem_append_left _ h⟩
theorem st_len31 : ∀ i, i < 16 → st_len.getD i 0 < 2 ^ 31 := by decide
theorem st_one {args : Array Value} {s : State} {A : Nat → Prop} (hfl : ∀ c ∈ flatC narrow_1, c.before args s = true) (hA : ∀ a : Nat, a < s.heap.size → ¬ A a) (hZ : va_Z "java/lang/String" "COMPACT_STRINGS" "Z" (.int 1) A s s.heap) (hq : va_Zq "jdk/internal/util/Preconditions" "SIOOBE_FORMATTER" "Ljava/util/function/BiFunction;" A s s.heap) (i : Nat) : ∃ q : Nat × Nat, i < 16 → (st_tm i).eval args s none [] s = some (.ref q.1) ∧ tt_J q.1 q.2 (st_len.getD i 0) (st_B i) A s s.heap := by
  by_cases hi : i < 16
  · have row : ∀ c ∈ st_row i, c.before args s = true := fun c h => hfl c (st_in hi h)
    have hex := row (.exactly (st_tm i) "java/lang/String") (by simp [st_row])
    have hco := row (.eq (.field (st_tm i) "java/lang/String" "coder" "B") (.int 0)) (by simp [st_row])
    have har := row (.arrayOf (st_val i) .byte) (by simp [st_row])
    have hle := row (.eq (.length (st_val i)) (.int (Int32.ofNat (st_len.getD i 0)))) (by simp [st_row])
    have hel : ∀ j, j < st_len.getD i 0 → (Cond.eq (.elem (st_val i) (.int (Int32.ofNat j))) (.int (st_B i j))).before args s = true := fun j hj => row _ (List.mem_append_right _ (List.mem_map.mpr ⟨j, List.mem_range.mpr hj, rfl⟩))
    obtain ⟨a, c, cA, kA, q1, q2, q3, q4, q5, q6, -⟩ := Cond.exactly_spec (args := args) (first := s) (o := none) (s := s) (idx := []) (t := st_tm i) (cls := "java/lang/String") hex
    obtain ⟨t, ht, hT⟩ := va_Tof (f := fun j => .int (st_B i j)) (A := A) (st_len31 i hi) har (va_eqt hle) (fun j hj => va_eqt (hel j hj)) hA
    exact ⟨(a, t), fun _ => ⟨q1, ⟨cA, q3, q5, by rw [q6]; exact q2, hA a (Array.getElem?_eq_some_iff.mp q3).1⟩, vk_OFof q1 (va_eqt hco) hA, vk_OFof q1 ht hA, hT, hZ, hq⟩⟩
  · exact ⟨(0, 0), fun h => absurd h hi⟩
set_option maxRecDepth 1000000 in
theorem st_refs : ∀ i, i < 16 → Cond.stringRef (st_own.getD i "") (st_idx.getD i 0) (st_txt.getD i "") ∈ tables_1 := by decide +kernel
theorem st_all {args : Array Value} {s : State} {A : Nat → Prop} (hts : ∀ w ∈ tables_1, w.before args s = true) (hfl : ∀ c ∈ flatC narrow_1, c.before args s = true) (hA : ∀ a : Nat, a < s.heap.size → ¬ A a) (hZ : va_Z "java/lang/String" "COMPACT_STRINGS" "Z" (.int 1) A s s.heap) (hq : va_Zq "jdk/internal/util/Preconditions" "SIOOBE_FORMATTER" "Ljava/util/function/BiFunction;" A s s.heap) : ∃ adK adV : Nat → Nat, tt_X adK adV A s s.heap := by
  obtain ⟨ad, had⟩ := Classical.axiomOfChoice (st_one hfl hA hZ hq)
  exact ⟨fun i => (ad i).1, fun i => (ad i).2, fun i hi => (had i hi).2, fun i hi => vk_R.of (hts _ (st_refs i hi)) (had i hi).1⟩
