/-! the first state; the constructors -/
def s00 : ST := (0, fun _ => 0, fun _ => 0, fun _ => 0, fun _ => 0, fun _ _ => false, fun _ _ _ => none, fun _ _ => none, fun _ => [], 1, [], 0, fun _ => ak0 0 0 0 0, [], 0, 0, false, 0, [])
def lnM (m : MM) (n : Nat) : MM := sR (al m 11 192 192) 3 n 0 (some (mC m 11))
theorem go_initLine {m : MM} {n : Nat} : go 8 0 [some (vr 3 (some n))] [] m = some (none, lnM m n) := by
  simp only [s8_0, s8_1, s8_4, s8_5, s8_8k192, s8_11r, s8_11n, s8_14, eq_self, ixk_some, bd_some, nl_n, nl_i, nl_r, Option.toList_some, Option.toList_none, List.cons_append, List.nil_append]
  rfl
def cnM (m : MM) (n : Nat) : MM := sR (iniP (al (sI m 2 n 0 0) 5 0 3) (mC m 5)) 2 n 4 (some (mC m 5))
theorem go_initChange {m : MM} {n : Nat} : go 5 0 [some (vr 2 (some n))] [] m = some (none, cnM m n) := by
  have a1 := go_initPairs (m := al (sI m 2 n 0 0) 5 0 3) (q := mC m 5)
  have e2 : mC (sI m 2 n 0 0) 5 = mC m 5 := rfl
  simp only [s5_0, s5_1, s5_4, s5_5, s5_6, s5_9, s5_10, s5_13, s5_14, s5_17r, s5_17n, s5_20, eq_self, ixk_some, bd_some, nl_n, nl_i, nl_r, Option.toList_some, Option.toList_none, List.cons_append, List.nil_append, e2, a1]
  rfl
