/-! the class: why, sound, row, keeper -/
theorem go_isAlone {s : ST} {m : MM} {u l : Nat} (h : RCp s m) (hu : u < c_n s) : go 99 0 [some (vr 7 (some 0)), some (vr 6 (some u)), some (vi (nI l))] [] m = some (some (vi (b2 (alo s u l))), m) := by
  obtain ⟨t0, a1, a2, a3⟩ := go_nextInRow (l := l) (d := 0) h hu (by decide)
  obtain ⟨t1, c1, c2, c3⟩ := go_nextInRow (l := l) (d := 1) h hu (by decide)
  simp only [← nI_k0, ← nI_k1] at a3 c3
  simp only [s99_0, s99_1, s99_2, s99_3, s99_4, s99_10, s99_11, s99_12, s99_13, s99_14, s99_20, s99_21, s99_24, s99_25b0, s99_25b1, eq_self, ixk_some, bd_some, nl_n, nl_i, nl_r, Option.toList_some, Option.toList_none, List.cons_append, List.nil_append, a3, c3]
  cases h0 : nxt s u l 0 with
  | some p => simp only [s99_0, s99_1, s99_2, s99_3, s99_4, s99_7n, s99_7s, s99_10, s99_11, s99_12, s99_13, s99_14, s99_17n, s99_17s, s99_20, s99_21, s99_24, s99_25b0, s99_25b1, eq_self, ixk_some, bd_some, nl_n, nl_i, nl_r, Option.toList_some, Option.toList_none, List.cons_append, List.nil_append, alo, h0]; rfl
  | none =>
    simp only [s99_0, s99_1, s99_2, s99_3, s99_4, s99_7n, s99_7s, s99_10, s99_11, s99_12, s99_13, s99_14, s99_20, s99_21, s99_24, s99_25b0, s99_25b1, eq_self, ixk_some, bd_some, nl_n, nl_i, nl_r, Option.toList_some, Option.toList_none, List.cons_append, List.nil_append, c3]
    cases h1 : nxt s u l 1 with
    | some p => simp only [s99_0, s99_1, s99_2, s99_3, s99_4, s99_7n, s99_7s, s99_10, s99_11, s99_12, s99_13, s99_14, s99_17n, s99_17s, s99_20, s99_21, s99_24, s99_25b0, s99_25b1, eq_self, ixk_some, bd_some, nl_n, nl_i, nl_r, Option.toList_some, Option.toList_none, List.cons_append, List.nil_append, alo, h0, h1]; rfl
    | none => simp only [s99_0, s99_1, s99_2, s99_3, s99_4, s99_7n, s99_7s, s99_10, s99_11, s99_12, s99_13, s99_14, s99_17n, s99_17s, s99_20, s99_21, s99_24, s99_25b0, s99_25b1, eq_self, ixk_some, bd_some, nl_n, nl_i, nl_r, Option.toList_some, Option.toList_none, List.cons_append, List.nil_append, alo, h0, h1]; rfl
theorem ra_eq {t t' : Nat} {o o' : Option Nat} (h : o = none ∨ t = 6) (h' : o' = none ∨ t' = 6) : ra (t, o) (t', o') = true ↔ o = o' := by
  cases o with
  | none => cases o' with
    | none => simp [ra]
    | some b => simp [ra]
  | some a => cases o' with
    | none => simp [ra]
    | some b =>
      obtain rfl : t = 6 := h.resolve_left (by simp)
      obtain rfl : t' = 6 := h'.resolve_left (by simp)
      simp [ra]
theorem tgN_ok (s : ST) (i l d : Nat) : lnk s i l d = none ∨ tgN s i l = 6 := by
  unfold lnk tgN
  cases c_hs s i l <;> simp
theorem go_faultAt {s : ST} {m : MM} {u l : Nat} (h : RCp s m) (hu : u < c_n s) (hl : l < 9) : go 100 0 [some (vr 7 (some 0)), some (vr 6 (some u)), some (vi (nI l)), none] [] m = some (some (vi (enc (flt s u l))), m) := by
  obtain ⟨t0, a1, a2, a3⟩ := go_nextInRow (l := l) (d := 0) h hu (by decide)
  obtain ⟨t1, c1, c2, c3⟩ := go_nextInRow (l := l) (d := 1) h hu (by decide)
  have n0 := go_next h hu hl (d := 0) (by decide)
  have n1 := go_next h hu hl (d := 1) (by decide)
  have hp := go_hasPlace h hu (show l < 2 ^ 31 by omega)
  simp only [hl, decide_true, Bool.true_and] at hp
  simp only [← nI_k0, ← nI_k1] at a3 c3 n0 n1
  have key : ∀ b : Bool, b = due s u l → go 100 20 [some (vr 7 (some 0)), some (vr 6 (some u)), some (vi (nI l)), none] [vi (b2 b)] m = some (some (vi (enc (flt s u l))), m) := by
    intro b hb
    simp only [s100_1, s100_4, s100_5, s100_6, s100_7, s100_8, s100_9, s100_12, s100_15, s100_16, s100_19, s100_20i, s100_20r, s100_20n, s100_21, s100_22, s100_23, s100_24, s100_27, s100_30, s100_31, s100_32, s100_33, s100_36, s100_38, s100_39, s100_40, s100_41, s100_42, s100_45, s100_46, s100_47, s100_48, s100_49, s100_52, s100_55, s100_56, s100_57, s100_58, s100_59, s100_60, s100_63, s100_64, s100_65, s100_66, s100_67, s100_70, s100_73, s100_74, s100_77, s100_79, eq_self, ixk_some, bd_some, nl_n, nl_i, nl_r, Option.toList_some, Option.toList_none, List.cons_append, List.nil_append, hp, n0, n1, a3, c3, flt, ← hb]
    cases b <;> cases hh : c_hs s u l
    · first | (simp [b2, enc]; done) | (simp [b2, enc]; rfl)
    · first | (simp [b2, enc]; done) | (simp [b2, enc]; rfl)
    · first | (simp [b2, enc]; done) | (simp [b2, enc]; rfl)
    · simp only [ra_eq (tgN_ok s u l 0) a1, ra_eq (tgN_ok s u l 1) c1]
      by_cases e0 : lnk s u l 0 = nxt s u l 0
      · by_cases e1 : lnk s u l 1 = nxt s u l 1
        · first | (simp [e0, e1, b2, enc]; done) | (simp [e0, e1, b2, enc]; rfl)
        · first | (simp [e0, e1, b2, enc]; done) | (simp [e0, e1, b2, enc]; rfl)
      · first | (simp [e0, b2, enc]; done) | (simp [e0, b2, enc]; rfl)
  by_cases h0 : l = 0
  · subst h0
    have := key true (by simp [due])
    simp only [s100_0, s100_1, s100_4, s100_5, s100_6, s100_7, s100_8, s100_9, s100_12, s100_15, s100_16, s100_19, eq_self, ixk_some, bd_some, nl_n, nl_i, nl_r, Option.toList_some, Option.toList_none, List.cons_append, List.nil_append]
    rw [if_pos (show nI 0 = 0 from rfl)]
    exact this
  · have ha := go_isAlone (l := l - 1) h hu
    have el : nI l - 1 = nI (l - 1) := by
      obtain ⟨k, rfl⟩ : ∃ k, l = k + 1 := ⟨l - 1, by omega⟩
      exact nI_pred k
    simp only [s100_0, s100_1, s100_4, s100_5, s100_6, s100_7, s100_8, s100_9, s100_12, s100_15, s100_16, s100_19, eq_self, ixk_some, bd_some, nl_n, nl_i, nl_r, Option.toList_some, Option.toList_none, List.cons_append, List.nil_append, el, ha]
    rw [if_neg (nI_ne0 (by omega) (by omega))]
    cases hq : alo s u (l - 1)
    · rw [if_neg (by simp [b2])]
      exact key true (by simp [due, hq])
    · rw [if_pos (by simp [b2])]
      exact key false (by simp [due, hq, h0])
