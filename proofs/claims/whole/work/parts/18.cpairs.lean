/-! Pairs -/
def belP (m : MM) (p : Nat) (key : Int32) : Nat → Bool := fun i => decide (mI m 12 p i < key)
/-- what holds of a Pairs object: its arrays, its size -/
def Pok (m : MM) (p s : Nat) : Prop := mR m 5 p 0 = some p ∧ mR m 5 p 1 = some p ∧ mI m 5 p 2 = nI s ∧ s ≤ 16 ∧ mN m 12 p = 16 ∧ mN m 13 p = 16
theorem below_loop {m : MM} {p s : Nat} {key : Int32} (h : Pok m p s) : ∀ d i, i + d = s → go 16 2 [some (vr 5 (some p)), some (vi key), some (vi (nI i))] [] m = some (some (vi (nI (sc (belP m p key) d i))), m) := by
  obtain ⟨h1, h2, h3, h4, h5, h6⟩ := h
  intro d
  induction d with
  | zero =>
    intro i hi
    rw [s16_2]
    simp only [s16_0, s16_1i, s16_1r, s16_1n, s16_3, s16_4, s16_7, s16_10, s16_11, s16_14, s16_15, s16_16, s16_17, s16_20i, s16_20r, s16_20n, s16_23, s16_26, s16_27, eq_self, ixk_some, bd_some, nl_n, nl_i, nl_r, Option.toList_some, Option.toList_none, List.cons_append, List.nil_append, h3]
    rw [if_pos (nI_le (by omega) (by omega))]
    rfl
  | succ d ih =>
    intro i hi
    have hix := ix_nI (i := i) (n := mN m 12 p) (by rw [h5]; omega) (by rw [h5]; decide)
    rw [s16_2]
    simp only [s16_0, s16_1i, s16_1r, s16_1n, s16_3, s16_4, s16_7, s16_10, s16_11, s16_14, s16_15, s16_16, s16_17, s16_20i, s16_20r, s16_20n, s16_23, s16_26, s16_27, eq_self, ixk_some, bd_some, nl_n, nl_i, nl_r, Option.toList_some, Option.toList_none, List.cons_append, List.nil_append, h3, h1, hix]
    rw [if_neg (nI_ge (by omega) (by omega))]
    by_cases hk : mI m 12 p i < key
    · rw [if_neg (by rw [Int32.not_le]; exact hk), nI_1, ih (i + 1) (by omega)]
      simp only [sc, belP, hk, decide_true, if_true]
    · rw [if_pos (by rw [← Int32.not_lt]; exact hk)]
      simp only [sc, belP, hk, decide_false, Bool.false_eq_true, if_false]
theorem go_below {m : MM} {p s : Nat} {key : Int32} (h : Pok m p s) : go 16 0 [some (vr 5 (some p)), some (vi key), none] [] m = some (some (vi (nI (sc (belP m p key) s 0))), m) := by
  simp only [s16_0, s16_1i, s16_1r, s16_1n, eq_self, ixk_some, bd_some, nl_n, nl_i, nl_r, Option.toList_some, Option.toList_none, List.cons_append, List.nil_append]
  exact below_loop h s 0 (by omega)
