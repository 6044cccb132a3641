/-! the reference: small reads -/
theorem cmp_lt (x y : Int64) : lg_cmp x y < 0 ↔ x < y := by
  unfold lg_cmp
  rw [Int64.lt_iff_toInt_lt]
  by_cases h : x > y
  · rw [if_pos h]
    have := Int64.lt_iff_toInt_lt.mp h
    simp only [show ¬ (1 : Int32) < 0 by decide, false_iff]
    omega
  · rw [if_neg h]
    by_cases e : x = y
    · rw [if_pos e, e]
      simp only [show ¬ (0 : Int32) < 0 by decide, false_iff]
      omega
    · rw [if_neg e]
      simp only [show (-1 : Int32) < 0 by decide, true_iff]
      have h1 : ¬ y.toInt < x.toInt := fun z => h (Int64.lt_iff_toInt_lt.mpr z)
      have h2 : x.toInt ≠ y.toInt := fun z => e (Int64.toInt_inj.mp z)
      omega
theorem cmp_gt (x y : Int64) : 0 < lg_cmp x y ↔ y < x := by
  unfold lg_cmp
  by_cases h : x > y
  · rw [if_pos h]
    simp only [show (0 : Int32) < 1 by decide, true_iff]
    exact h
  · rw [if_neg h]
    by_cases e : x = y
    · rw [if_pos e, e]
      simp only [show ¬ (0 : Int32) < 0 by decide, false_iff]
      intro z
      have := Int64.lt_iff_toInt_lt.mp z
      omega
    · rw [if_neg e]
      simp only [show ¬ (0 : Int32) < -1 by decide, false_iff]
      exact h
theorem go_in {m : MM} {v a b : Int64} : go 103 0 [some (vl v), none, some (vl a), none, some (vl b), none] [] m = some (some (vi (b2 (decide (a.toInt ≤ v.toInt ∧ v.toInt ≤ b.toInt)))), m) := by
  simp only [s103_0, s103_1, s103_2, s103_3, eq_self, ixk_some, bd_some, nl_n, nl_i, nl_r, Option.toList_some, Option.toList_none, List.cons_append, List.nil_append]
  by_cases h1 : v < a
  · rw [if_pos ((cmp_lt v a).mpr h1)]
    have := Int64.lt_iff_toInt_lt.mp h1
    rw [decide_eq_false (by omega), b2_f]
    simp only [s103_17, s103_18b0, s103_18b1, eq_self, ixk_some, bd_some, nl_n, nl_i, nl_r, Option.toList_some, Option.toList_none, List.cons_append, List.nil_append]
  · rw [if_neg (fun z => h1 ((cmp_lt v a).mp z))]
    have h1' : ¬ v.toInt < a.toInt := fun z => h1 (Int64.lt_iff_toInt_lt.mpr z)
    simp only [s103_6, s103_7, s103_9, s103_10, eq_self, ixk_some, bd_some, nl_n, nl_i, nl_r, Option.toList_some, Option.toList_none, List.cons_append, List.nil_append]
    by_cases h2 : b < v
    · rw [if_pos ((cmp_gt v b).mpr h2)]
      have := Int64.lt_iff_toInt_lt.mp h2
      rw [decide_eq_false (by omega), b2_f]
      simp only [s103_17, s103_18b0, s103_18b1, eq_self, ixk_some, bd_some, nl_n, nl_i, nl_r, Option.toList_some, Option.toList_none, List.cons_append, List.nil_append]
    · rw [if_neg (fun z => h2 ((cmp_gt v b).mp z))]
      have h2' : ¬ b.toInt < v.toInt := fun z => h2 (Int64.lt_iff_toInt_lt.mpr z)
      rw [decide_eq_true (by omega), b2_t]
      simp only [s103_13, s103_14, s103_18b0, s103_18b1, eq_self, ixk_some, bd_some, nl_n, nl_i, nl_r, Option.toList_some, Option.toList_none, List.cons_append, List.nil_append]
theorem t64 (x : Int32) : x.toInt64.toInt = x.toInt := Int32.toInt_toInt64 x
theorem nI_m1 {n : Nat} (h : n < 2 ^ 30) : (nI n - 1).toInt = (n : Int) - 1 := by
  rw [Int32.toInt_sub, nI_toInt (by omega)]
  have : (1 : Int32).toInt = 1 := by decide
  rw [this]
  exact Int.bmod_eq_of_le (by omega) (by omega)
theorem rr_isPeer {s : ST} {m : MM} {p : Int32} (h : RRp s m) : go 104 0 [some (vr 8 (some 0)), some (vi p)] [] m = some (some (vi (b2 (isP s p))), m) := by
  have h4 := h.2.2.2.1
  have h3 := h.2.2.1
  have a1 := go_in (m := m) (v := p.toInt64) (a := 0) (b := (nI (c_n s) - 1).toInt64)
  rw [t64, t64, nI_m1 (by omega), show (0 : Int64).toInt = 0 by decide] at a1
  have e : decide (0 ≤ p.toInt ∧ p.toInt ≤ (c_n s : Int) - 1) = isP s p := by
    unfold isP
    congr 1
    apply propext
    omega
  rw [e] at a1
  simp only [s104_0, s104_1, s104_2, s104_3, s104_4, s104_7, s104_8, s104_9, s104_10, eq_self, ixk_some, bd_some, nl_n, nl_i, nl_r, Option.toList_some, Option.toList_none, List.cons_append, List.nil_append, h4, a1]
  cases isP s p
  · simp only [b2_f, s104_0, s104_1, s104_2, s104_3, s104_4, s104_7, s104_8, s104_9, s104_10, s104_13b0, s104_13b1, eq_self, ixk_some, bd_some, nl_n, nl_i, nl_r, Option.toList_some, Option.toList_none, List.cons_append, List.nil_append]
  · simp only [b2_t, s104_0, s104_1, s104_2, s104_3, s104_4, s104_7, s104_8, s104_9, s104_10, s104_13b0, s104_13b1, eq_self, ixk_some, bd_some, nl_n, nl_i, nl_r, Option.toList_some, Option.toList_none, List.cons_append, List.nil_append]
theorem rr_isAsk {s : ST} {m : MM} {p : Int32} (h : RRa s m) : go 143 0 [some (vr 8 (some 0)), some (vi p)] [] m = some (some (vi (b2 (isA s p))), m) := by
  have h4 := h.2.1
  have h3 := h.1
  have a1 := go_in (m := m) (v := p.toInt64) (a := 0) (b := (nI (c_na s) - 1).toInt64)
  rw [t64, t64, nI_m1 (by omega), show (0 : Int64).toInt = 0 by decide] at a1
  have e : decide (0 ≤ p.toInt ∧ p.toInt ≤ (c_na s : Int) - 1) = isA s p := by
    unfold isA
    congr 1
    apply propext
    omega
  rw [e] at a1
  simp only [s143_0, s143_1, s143_2, s143_3, s143_4, s143_7, s143_8, s143_9, s143_10, eq_self, ixk_some, bd_some, nl_n, nl_i, nl_r, Option.toList_some, Option.toList_none, List.cons_append, List.nil_append, h4, a1]
  cases isA s p
  · simp only [b2_f, s143_0, s143_1, s143_2, s143_3, s143_4, s143_7, s143_8, s143_9, s143_10, s143_13b0, s143_13b1, eq_self, ixk_some, bd_some, nl_n, nl_i, nl_r, Option.toList_some, Option.toList_none, List.cons_append, List.nil_append]
  · simp only [b2_t, s143_0, s143_1, s143_2, s143_3, s143_4, s143_7, s143_8, s143_9, s143_10, s143_13b0, s143_13b1, eq_self, ixk_some, bd_some, nl_n, nl_i, nl_r, Option.toList_some, Option.toList_none, List.cons_append, List.nil_append]
theorem rr_left {s : ST} {m : MM} {i l : Nat} (h : RRp s m) (hi : i < c_n s) (hl : l < 9) : go 112 0 [some (vr 8 (some 0)), some (vi (nI i)), some (vi (nI l))] [] m = some (some (vi (enc (lnk s i l 0))), m) := by
  obtain ⟨hx, hn, h3, h4, h5, h6⟩ := h
  obtain ⟨g1, g2, g3⟩ := (h6 i hi).2.2.2.2.2.2 l hl
  have i23 := ixN (FN_23 hn) (i := 9 * i + l) (by omega) (by decide)
  have i24 := ixN (FN_24 hn) (i := 9 * i + l) (by omega) (by decide)
  unfold lnk
  cases hb : c_hs s i l
  · rw [hb] at g1
    simp [s112_0, s112_1, s112_4, s112_6, s112_7, s112_8, s112_9, s112_10, s112_11, s112_14, s112_15, s112_18, s112_20, s112_21, s112_22, s112_23, s112_24, s112_25, s112_28, s112_30, eq_self, ixk_some, bd_some, nl_n, nl_i, nl_r, Option.toList_some, Option.toList_none, List.cons_append, List.nil_append, FX_2 hx, FX_3 hx, FX_4 hx, FX_5 hx, FX_6 hx, FX_7 hx, FX_8 hx, FX_9 hx, FX_10 hx, FX_11 hx, FX_12 hx, FX_13 hx, FX_15 hx, FX_19 hx, FX_20 hx, FX_21 hx, FX_22 hx, FX_23 hx, FX_24 hx, FX_25 hx, FX_26 hx, FX_27 hx, FX_28 hx, FX_29 hx, FX_31 hx, FX_32 hx, FX_33 hx, FX_34 hx, FX_35 hx, FX_36 hx, FX_37 hx, FX_39 hx, FX_40 hx, fl9, i23, g1, b2]
    rfl
  · rw [hb] at g1
    simp [s112_0, s112_1, s112_4, s112_6, s112_7, s112_8, s112_9, s112_10, s112_11, s112_14, s112_15, s112_18, s112_20, s112_21, s112_22, s112_23, s112_24, s112_25, s112_28, s112_30, eq_self, ixk_some, bd_some, nl_n, nl_i, nl_r, Option.toList_some, Option.toList_none, List.cons_append, List.nil_append, FX_2 hx, FX_3 hx, FX_4 hx, FX_5 hx, FX_6 hx, FX_7 hx, FX_8 hx, FX_9 hx, FX_10 hx, FX_11 hx, FX_12 hx, FX_13 hx, FX_15 hx, FX_19 hx, FX_20 hx, FX_21 hx, FX_22 hx, FX_23 hx, FX_24 hx, FX_25 hx, FX_26 hx, FX_27 hx, FX_28 hx, FX_29 hx, FX_31 hx, FX_32 hx, FX_33 hx, FX_34 hx, FX_35 hx, FX_36 hx, FX_37 hx, FX_39 hx, FX_40 hx, fl9, i23, i24, g1, g2, b2]
theorem rr_right {s : ST} {m : MM} {i l : Nat} (h : RRp s m) (hi : i < c_n s) (hl : l < 9) : go 113 0 [some (vr 8 (some 0)), some (vi (nI i)), some (vi (nI l))] [] m = some (some (vi (enc (lnk s i l 1))), m) := by
  obtain ⟨hx, hn, h3, h4, h5, h6⟩ := h
  obtain ⟨g1, g2, g3⟩ := (h6 i hi).2.2.2.2.2.2 l hl
  have i23 := ixN (FN_23 hn) (i := 9 * i + l) (by omega) (by decide)
  have i24 := ixN (FN_25 hn) (i := 9 * i + l) (by omega) (by decide)
  unfold lnk
  cases hb : c_hs s i l
  · rw [hb] at g1
    simp [s113_0, s113_1, s113_4, s113_6, s113_7, s113_8, s113_9, s113_10, s113_11, s113_14, s113_15, s113_18, s113_20, s113_21, s113_22, s113_23, s113_24, s113_25, s113_28, s113_30, eq_self, ixk_some, bd_some, nl_n, nl_i, nl_r, Option.toList_some, Option.toList_none, List.cons_append, List.nil_append, FX_2 hx, FX_3 hx, FX_4 hx, FX_5 hx, FX_6 hx, FX_7 hx, FX_8 hx, FX_9 hx, FX_10 hx, FX_11 hx, FX_12 hx, FX_13 hx, FX_15 hx, FX_19 hx, FX_20 hx, FX_21 hx, FX_22 hx, FX_23 hx, FX_24 hx, FX_25 hx, FX_26 hx, FX_27 hx, FX_28 hx, FX_29 hx, FX_31 hx, FX_32 hx, FX_33 hx, FX_34 hx, FX_35 hx, FX_36 hx, FX_37 hx, FX_39 hx, FX_40 hx, fl9, i23, g1, b2]
    rfl
  · rw [hb] at g1
    simp [s113_0, s113_1, s113_4, s113_6, s113_7, s113_8, s113_9, s113_10, s113_11, s113_14, s113_15, s113_18, s113_20, s113_21, s113_22, s113_23, s113_24, s113_25, s113_28, s113_30, eq_self, ixk_some, bd_some, nl_n, nl_i, nl_r, Option.toList_some, Option.toList_none, List.cons_append, List.nil_append, FX_2 hx, FX_3 hx, FX_4 hx, FX_5 hx, FX_6 hx, FX_7 hx, FX_8 hx, FX_9 hx, FX_10 hx, FX_11 hx, FX_12 hx, FX_13 hx, FX_15 hx, FX_19 hx, FX_20 hx, FX_21 hx, FX_22 hx, FX_23 hx, FX_24 hx, FX_25 hx, FX_26 hx, FX_27 hx, FX_28 hx, FX_29 hx, FX_31 hx, FX_32 hx, FX_33 hx, FX_34 hx, FX_35 hx, FX_36 hx, FX_37 hx, FX_39 hx, FX_40 hx, fl9, i23, i24, g1, g3, b2]
theorem rr_like {s : ST} {m : MM} {i j l : Nat} (h : RRp s m) (hi : i < c_n s) (hj : j < c_n s) : go 114 0 [some (vr 8 (some 0)), some (vi (nI i)), some (vi (nI j)), some (vi (nI l))] [] m = some (some (vi (b2 (like s i j l))), m) := by
  obtain ⟨hx, hn, h3, h4, h5, h6⟩ := h
  have gi := (h6 i hi).2.1
  have gj := (h6 j hj).2.1
  have ii := ixN (FN_20 hn) (i := i) (by omega) (by decide)
  have ij := ixN (FN_20 hn) (i := j) (by omega) (by decide)
  simp only [s114_0, s114_1, s114_4, s114_5, s114_6, s114_7, s114_10, s114_11, s114_12, s114_13, s114_14, s114_15, s114_16, s114_17, s114_18, s114_19, s114_22, s114_23, s114_26, eq_self, ixk_some, bd_some, nl_n, nl_i, nl_r, Option.toList_some, Option.toList_none, List.cons_append, List.nil_append, FX_2 hx, FX_3 hx, FX_4 hx, FX_5 hx, FX_6 hx, FX_7 hx, FX_8 hx, FX_9 hx, FX_10 hx, FX_11 hx, FX_12 hx, FX_13 hx, FX_15 hx, FX_19 hx, FX_20 hx, FX_21 hx, FX_22 hx, FX_23 hx, FX_24 hx, FX_25 hx, FX_26 hx, FX_27 hx, FX_28 hx, FX_29 hx, FX_31 hx, FX_32 hx, FX_33 hx, FX_34 hx, FX_35 hx, FX_36 hx, FX_37 hx, FX_39 hx, FX_40 hx, ii, ij, gi, gj]
  unfold like lkb
  by_cases e : (c_bt s i ^^^ c_bt s j) &&& ((1 : Int32) <<< (nI l &&& 31) - 1) = 0
  · rw [if_neg (fun z => z e)]
    simp only [s114_0, s114_1, s114_4, s114_5, s114_6, s114_7, s114_10, s114_11, s114_12, s114_13, s114_14, s114_15, s114_16, s114_17, s114_18, s114_19, s114_22, s114_23, s114_26, s114_27b0, s114_27b1, eq_self, ixk_some, bd_some, nl_n, nl_i, nl_r, Option.toList_some, Option.toList_none, List.cons_append, List.nil_append]
    simp [e, b2]
  · rw [if_pos e]
    simp only [s114_0, s114_1, s114_4, s114_5, s114_6, s114_7, s114_10, s114_11, s114_12, s114_13, s114_14, s114_15, s114_16, s114_17, s114_18, s114_19, s114_22, s114_23, s114_26, s114_27b0, s114_27b1, eq_self, ixk_some, bd_some, nl_n, nl_i, nl_r, Option.toList_some, Option.toList_none, List.cons_append, List.nil_append]
    simp [e, b2]
theorem isName_loop {s : ST} {m : MM} {name : Int32} (h : RRp s m) : ∀ d i (b : Bool), i + d = c_n s → go 105 4 [some (vr 8 (some 0)), some (vi name), some (vi (b2 b)), some (vi (nI i))] [] m = some (some (vi (b2 (b || anyF (fun p => c_nm s p == name) d i))), m) := by
  obtain ⟨hx, hn, h3, h4, h5, h6⟩ := h
  intro d
  induction d with
  | zero => 
    intro i b hi
    rw [s105_4]
    simp only [s105_5, s105_6, s105_9, eq_self, ixk_some, bd_some, nl_n, nl_i, nl_r, Option.toList_some, Option.toList_none, List.cons_append, List.nil_append, h4]
    rw [if_pos (nI_le (by omega) (by omega))]
    cases b
    · simp [s105_38, s105_39b0, s105_39b1, eq_self, ixk_some, bd_some, nl_n, nl_i, nl_r, Option.toList_some, Option.toList_none, List.cons_append, List.nil_append, anyF, b2]
    · simp [s105_38, s105_39b0, s105_39b1, eq_self, ixk_some, bd_some, nl_n, nl_i, nl_r, Option.toList_some, Option.toList_none, List.cons_append, List.nil_append, anyF, b2]
  | succ d ih => 
    intro i b hi
    have hi2 : i < c_n s := by omega
    have gi := (h6 i hi2).1
    have ii := ixN (FN_19 hn) (i := i) (by omega) (by decide)
    have s1 : nI i + 1 = nI (i + 1) := nI_1 i
    have ihf := ih (i + 1) false (by omega)
    have iht := ih (i + 1) true (by omega)
    rw [b2_f] at ihf
    rw [b2_t] at iht
    rw [s105_4]
    simp only [s105_5, s105_6, s105_9, eq_self, ixk_some, bd_some, nl_n, nl_i, nl_r, Option.toList_some, Option.toList_none, List.cons_append, List.nil_append, h4]
    rw [if_neg (nI_ge hi2 (by omega))]
    cases b
    · by_cases e : c_nm s i = name
      · simp [s105_0, s105_1i, s105_1r, s105_1n, s105_2, s105_3i, s105_3r, s105_3n, s105_5, s105_6, s105_9, s105_12, s105_13, s105_16, s105_17, s105_20, s105_21, s105_22, s105_23, s105_26, s105_27, s105_30, s105_31i, s105_31r, s105_31n, s105_32i, s105_32r, s105_32n, s105_35, s105_38, s105_39b0, s105_39b1, eq_self, ixk_some, bd_some, nl_n, nl_i, nl_r, Option.toList_some, Option.toList_none, List.cons_append, List.nil_append, FX_2 hx, FX_3 hx, FX_4 hx, FX_5 hx, FX_6 hx, FX_7 hx, FX_8 hx, FX_9 hx, FX_10 hx, FX_11 hx, FX_12 hx, FX_13 hx, FX_15 hx, FX_19 hx, FX_20 hx, FX_21 hx, FX_22 hx, FX_23 hx, FX_24 hx, FX_25 hx, FX_26 hx, FX_27 hx, FX_28 hx, FX_29 hx, FX_31 hx, FX_32 hx, FX_33 hx, FX_34 hx, FX_35 hx, FX_36 hx, FX_37 hx, FX_39 hx, FX_40 hx, ii, gi, e, s1, iht, anyF, b2]
      · simp [s105_0, s105_1i, s105_1r, s105_1n, s105_2, s105_3i, s105_3r, s105_3n, s105_5, s105_6, s105_9, s105_12, s105_13, s105_16, s105_17, s105_20, s105_21, s105_22, s105_23, s105_26, s105_27, s105_30, s105_31i, s105_31r, s105_31n, s105_32i, s105_32r, s105_32n, s105_35, s105_38, s105_39b0, s105_39b1, eq_self, ixk_some, bd_some, nl_n, nl_i, nl_r, Option.toList_some, Option.toList_none, List.cons_append, List.nil_append, FX_2 hx, FX_3 hx, FX_4 hx, FX_5 hx, FX_6 hx, FX_7 hx, FX_8 hx, FX_9 hx, FX_10 hx, FX_11 hx, FX_12 hx, FX_13 hx, FX_15 hx, FX_19 hx, FX_20 hx, FX_21 hx, FX_22 hx, FX_23 hx, FX_24 hx, FX_25 hx, FX_26 hx, FX_27 hx, FX_28 hx, FX_29 hx, FX_31 hx, FX_32 hx, FX_33 hx, FX_34 hx, FX_35 hx, FX_36 hx, FX_37 hx, FX_39 hx, FX_40 hx, ii, gi, e, s1, ihf, anyF, b2]
    · simp [s105_0, s105_1i, s105_1r, s105_1n, s105_2, s105_3i, s105_3r, s105_3n, s105_5, s105_6, s105_9, s105_12, s105_13, s105_16, s105_17, s105_20, s105_21, s105_22, s105_23, s105_26, s105_27, s105_30, s105_31i, s105_31r, s105_31n, s105_32i, s105_32r, s105_32n, s105_35, s105_38, s105_39b0, s105_39b1, eq_self, ixk_some, bd_some, nl_n, nl_i, nl_r, Option.toList_some, Option.toList_none, List.cons_append, List.nil_append, s1, iht, anyF, b2]
theorem rr_isName {s : ST} {m : MM} {name : Int32} (h : RRp s m) : go 105 0 [some (vr 8 (some 0)), some (vi name), none, none] [] m = some (some (vi (b2 (isNm s name))), m) := by
  have := isName_loop (name := name) h (c_n s) 0 false (by omega)
  rw [show isNm s name = (false || anyF (fun p => c_nm s p == name) (c_n s) 0) by simp [isNm], ← this]
  simp only [s105_0, s105_1i, s105_1r, s105_1n, s105_2, s105_3i, s105_3r, s105_3n, eq_self, ixk_some, bd_some, nl_n, nl_i, nl_r, Option.toList_some, Option.toList_none, List.cons_append, List.nil_append]
  rfl
theorem inMany_loop {s : ST} {m : MM} (h : RRp s m) : ∀ d i acc, i + d = c_n s → go 133 4 [some (vr 8 (some 0)), some (vi (nI acc)), some (vi (nI i))] [] m = some (some (vi (nI (acc + cntF (fun p => c_be s p == 2) d i))), m) := by
  obtain ⟨hx, hn, h3, h4, h5, h6⟩ := h
  intro d
  induction d with
  | zero => 
    intro i acc hi
    rw [s133_4]
    simp only [s133_5, s133_6, s133_9, eq_self, ixk_some, bd_some, nl_n, nl_i, nl_r, Option.toList_some, Option.toList_none, List.cons_append, List.nil_append, h4]
    rw [if_pos (nI_le (by omega) (by omega))]
    simp only [s133_0, s133_1i, s133_1r, s133_1n, s133_2, s133_3i, s133_3r, s133_3n, s133_5, s133_6, s133_9, s133_12, s133_13, s133_14, s133_17, s133_18, s133_19, s133_20, s133_23, s133_24, s133_27, s133_28, s133_29i, s133_29r, s133_29n, s133_30i, s133_30r, s133_30n, s133_33, s133_36, s133_37, eq_self, ixk_some, bd_some, nl_n, nl_i, nl_r, Option.toList_some, Option.toList_none, List.cons_append, List.nil_append, cntF]
    rfl
  | succ d ih => 
    intro i acc hi
    have hi2 : i < c_n s := by omega
    have gi := (h6 i hi2).2.2.1
    have ii := ixN (FN_21 hn) (i := i) (by omega) (by decide)
    have s1 : nI i + 1 = nI (i + 1) := nI_1 i
    have s2 : nI acc + 1 = nI (acc + 1) := nI_1 acc
    rw [s133_4]
    simp only [s133_5, s133_6, s133_9, eq_self, ixk_some, bd_some, nl_n, nl_i, nl_r, Option.toList_some, Option.toList_none, List.cons_append, List.nil_append, h4]
    rw [if_neg (nI_ge hi2 (by omega))]
    by_cases e : c_be s i = 2
    · have e2 : nI (c_be s i) = 2 := by rw [e]; rfl
      have := ih (i + 1) (acc + 1) (by omega)
      simp only [cntF, e, BEq.rfl, if_true, ← Nat.add_assoc]
      rw [← this]
      simp [s133_0, s133_1i, s133_1r, s133_1n, s133_2, s133_3i, s133_3r, s133_3n, s133_5, s133_6, s133_9, s133_12, s133_13, s133_14, s133_17, s133_18, s133_19, s133_20, s133_23, s133_24, s133_27, s133_28, s133_29i, s133_29r, s133_29n, s133_30i, s133_30r, s133_30n, s133_33, s133_36, s133_37, eq_self, ixk_some, bd_some, nl_n, nl_i, nl_r, Option.toList_some, Option.toList_none, List.cons_append, List.nil_append, FX_2 hx, FX_3 hx, FX_4 hx, FX_5 hx, FX_6 hx, FX_7 hx, FX_8 hx, FX_9 hx, FX_10 hx, FX_11 hx, FX_12 hx, FX_13 hx, FX_15 hx, FX_19 hx, FX_20 hx, FX_21 hx, FX_22 hx, FX_23 hx, FX_24 hx, FX_25 hx, FX_26 hx, FX_27 hx, FX_28 hx, FX_29 hx, FX_31 hx, FX_32 hx, FX_33 hx, FX_34 hx, FX_35 hx, FX_36 hx, FX_37 hx, FX_39 hx, FX_40 hx, ii, gi, e2, s1, s2]
    · have e2 : ¬ nI (c_be s i) = 2 := be_ne2 (h5 i hi2) e
      have := ih (i + 1) acc (by omega)
      have e3 : (c_be s i == 2) = false := by simp [e]
      simp only [cntF, e3, Bool.false_eq_true, if_false, Nat.zero_add]
      rw [← this]
      simp [s133_0, s133_1i, s133_1r, s133_1n, s133_2, s133_3i, s133_3r, s133_3n, s133_5, s133_6, s133_9, s133_12, s133_13, s133_14, s133_17, s133_18, s133_19, s133_20, s133_23, s133_24, s133_27, s133_28, s133_29i, s133_29r, s133_29n, s133_30i, s133_30r, s133_30n, s133_33, s133_36, s133_37, eq_self, ixk_some, bd_some, nl_n, nl_i, nl_r, Option.toList_some, Option.toList_none, List.cons_append, List.nil_append, FX_2 hx, FX_3 hx, FX_4 hx, FX_5 hx, FX_6 hx, FX_7 hx, FX_8 hx, FX_9 hx, FX_10 hx, FX_11 hx, FX_12 hx, FX_13 hx, FX_15 hx, FX_19 hx, FX_20 hx, FX_21 hx, FX_22 hx, FX_23 hx, FX_24 hx, FX_25 hx, FX_26 hx, FX_27 hx, FX_28 hx, FX_29 hx, FX_31 hx, FX_32 hx, FX_33 hx, FX_34 hx, FX_35 hx, FX_36 hx, FX_37 hx, FX_39 hx, FX_40 hx, ii, gi, e2, s1]
theorem rr_inMany {s : ST} {m : MM} (h : RRp s m) : go 133 0 [some (vr 8 (some 0)), none, none] [] m = some (some (vi (nI (nIn s))), m) := by
  have := inMany_loop h (c_n s) 0 0 (by omega)
  rw [Nat.zero_add] at this
  rw [show nIn s = cntF (fun p => c_be s p == 2) (c_n s) 0 from rfl, ← this]
  simp only [s133_0, s133_1i, s133_1r, s133_1n, s133_2, s133_3i, s133_3r, s133_3n, eq_self, ixk_some, bd_some, nl_n, nl_i, nl_r, Option.toList_some, Option.toList_none, List.cons_append, List.nil_append]
  rfl
