/-! the class: to whom a message goes on -/
theorem m1_neg : nI 0 + (-1) < (0 : Int32) := by decide
theorem onward_loop {s : ST} {m : MM} {i : Nat} {x : Int32} {d : Nat} (h : RCp s m) (hc : CLs s) (hi : i < c_n s) (hd : d < 2) : ∀ k (a4 : Option AV), k ≤ 9 →
    ∃ t, (aml s i x d k = none ∨ t = 6) ∧ go 36 43 [some (vr 6 (some i)), some (vi x), some (vi (nI d)), some (vi (nI k + (-1))), a4] [] m = (match aml s i x d k with
      | some p => some (some (vr 6 (some p)), m)
      | none => if d = 0 then some (some (vr (tgN s i 0) (lnk s i 0 0)), m) else some (some (vr 0 none), m)) := by
  intro k
  induction k with
  | zero =>
    intro a4 hk
    refine ⟨6, Or.inr rfl, ?_⟩
    rw [s36_43]
    have n0 := go_next h hi (show 0 < 9 by decide) (d := 0) (by decide)
    simp only [← nI_k0] at n0
    simp only [s36_0, s36_1, s36_4, s36_7, s36_8, s36_11n, s36_11s, s36_14, s36_15, s36_18, s36_21, s36_22, s36_25, s36_26, s36_27, s36_30, s36_31, s36_34, s36_35, s36_38, s36_39i, s36_39r, s36_39n, s36_40, s36_42i, s36_42r, s36_42n, s36_44, s36_47, s36_48, s36_49, s36_50, s36_53i, s36_53r, s36_53n, s36_55, s36_57n, s36_57s, s36_60, s36_61, s36_62, s36_65, s36_67, s36_70, s36_71, s36_74, s36_77, s36_79, s36_82, s36_83, s36_86, s36_88, s36_89i, s36_89r, s36_89n, s36_92, s36_95, s36_96, s36_99, s36_100, s36_101, s36_102, s36_105, s36_108, s36_109, eq_self, ixk_some, bd_some, nl_n, nl_i, nl_r, Option.toList_some, Option.toList_none, List.cons_append, List.nil_append, n0, aml]
    rw [if_pos m1_neg]
    match d, hd with
    | 0, _ => rw [if_neg (by decide)]; rfl
    | 1, _ => rw [if_pos (by decide)]; rfl
  | succ k ih =>
    intro a4 hk
    have nk := go_next h hi (show k < 9 by omega) hd
    rw [s36_43]
    simp only [s36_0, s36_1, s36_4, s36_7, s36_8, s36_11n, s36_11s, s36_14, s36_15, s36_18, s36_21, s36_22, s36_25, s36_26, s36_27, s36_30, s36_31, s36_34, s36_35, s36_38, s36_39i, s36_39r, s36_39n, s36_40, s36_42i, s36_42r, s36_42n, s36_44, s36_47, s36_48, s36_49, s36_50, s36_53i, s36_53r, s36_53n, s36_55, s36_60, s36_61, s36_62, s36_65, s36_67, s36_70, s36_71, s36_74, s36_77, s36_79, s36_82, s36_83, s36_86, s36_88, s36_89i, s36_89r, s36_89n, s36_92, s36_95, s36_96, s36_99, s36_100, s36_101, s36_102, s36_105, s36_108, s36_109, eq_self, ixk_some, bd_some, nl_n, nl_i, nl_r, Option.toList_some, Option.toList_none, List.cons_append, List.nil_append, pk_m1, nk]
    rw [if_neg (nI_pos (by omega))]
    cases hl : lnk s i k d with
    | none =>
      obtain ⟨t, h1, h2⟩ := ih (some (vr (tgN s i k) none)) (by omega)
      refine ⟨t, ?_, ?_⟩
      · simpa [aml, hl] using h1
      · simp only [s36_0, s36_1, s36_4, s36_7, s36_8, s36_11n, s36_11s, s36_14, s36_15, s36_18, s36_21, s36_22, s36_25, s36_26, s36_27, s36_30, s36_31, s36_34, s36_35, s36_38, s36_39i, s36_39r, s36_39n, s36_40, s36_42i, s36_42r, s36_42n, s36_44, s36_47, s36_48, s36_49, s36_50, s36_53i, s36_53r, s36_53n, s36_55, s36_57n, s36_57s, s36_60, s36_61, s36_62, s36_65, s36_67, s36_70, s36_71, s36_74, s36_77, s36_79, s36_82, s36_83, s36_86, s36_88, s36_89i, s36_89r, s36_89n, s36_92, s36_95, s36_96, s36_99, s36_100, s36_101, s36_102, s36_105, s36_108, s36_109, eq_self, ixk_some, bd_some, nl_n, nl_i, nl_r, Option.toList_some, Option.toList_none, List.cons_append, List.nil_append, aml, hl]
        exact h2
    | some p =>
      have hp := cls_lnk hc hi hl
      have gp := (h.2.2.2.2.2.2 p hp).2.1
      have ht : tgN s i k = 6 := by
        unfold lnk at hl
        unfold tgN
        split at hl
        · rename_i hq; rw [if_pos hq]
        · cases hl
      obtain ⟨t, h1, h2⟩ := ih (some (vr 6 (some p))) (by omega)
      rw [ht]
      simp only [s36_0, s36_1, s36_4, s36_7, s36_8, s36_11n, s36_11s, s36_14, s36_15, s36_18, s36_21, s36_22, s36_25, s36_26, s36_27, s36_30, s36_31, s36_34, s36_35, s36_38, s36_39i, s36_39r, s36_39n, s36_40, s36_42i, s36_42r, s36_42n, s36_44, s36_47, s36_48, s36_49, s36_50, s36_53i, s36_53r, s36_53n, s36_55, s36_57n, s36_57s, s36_60, s36_61, s36_62, s36_65, s36_67, s36_70, s36_71, s36_74, s36_77, s36_79, s36_82, s36_83, s36_86, s36_88, s36_89i, s36_89r, s36_89n, s36_92, s36_95, s36_96, s36_99, s36_100, s36_101, s36_102, s36_105, s36_108, s36_109, eq_self, ixk_some, bd_some, nl_n, nl_i, nl_r, Option.toList_some, Option.toList_none, List.cons_append, List.nil_append, gp]
      match d, hd with
      | 0, _ =>
        rw [if_pos (by decide)]
        by_cases hq : x ≤ c_nm s p
        · refine ⟨6, Or.inr rfl, ?_⟩
          rw [if_neg (by rw [Int32.not_lt]; exact hq)]
          simp [aml, hl, hq]
        · refine ⟨t, ?_, ?_⟩
          · simpa [aml, hl, hq] using h1
          · rw [if_pos (by rw [← Int32.not_le]; exact hq), h2]
            simp [aml, hl, hq]
      | 1, _ =>
        rw [if_neg (by decide)]
        by_cases hq : c_nm s p ≤ x
        · refine ⟨6, Or.inr rfl, ?_⟩
          rw [if_neg (by rw [Int32.not_lt]; exact hq)]
          simp [aml, hl, hq]
        · refine ⟨t, ?_, ?_⟩
          · simpa [aml, hl, hq] using h1
          · rw [if_pos (by rw [← Int32.not_le]; exact hq), h2]
            simp [aml, hl, hq]
theorem go_onward {s : ST} {m : MM} {i : Nat} {x : Int32} (h : RCp s m) (hc : CLs s) (hi : i < c_n s) :
    ∃ t, (onw s i x = none ∨ t = 6) ∧ go 36 0 [some (vr 6 (some i)), some (vi x), none, none, none] [] m = some (some (vr t (onw s i x)), m) := by
  have ha := go_isAway h hi
  obtain ⟨g0, g1, g2, g3, g4, g5, g6, g7, g8, -⟩ := h.2.2.2.2.2.2 i hi
  simp only [s36_0, s36_1, s36_4, s36_7, s36_8, s36_14, s36_15, s36_18, s36_21, s36_22, s36_25, s36_26, s36_27, s36_30, s36_31, s36_34, s36_35, s36_38, s36_39i, s36_39r, s36_39n, s36_40, s36_42i, s36_42r, s36_42n, s36_44, s36_47, s36_48, s36_49, s36_50, s36_53i, s36_53r, s36_53n, s36_55, s36_57n, s36_57s, s36_60, s36_61, s36_62, s36_65, s36_67, s36_70, s36_71, s36_74, s36_77, s36_79, s36_82, s36_83, s36_86, s36_88, s36_89i, s36_89r, s36_89n, s36_92, s36_95, s36_96, s36_99, s36_100, s36_101, s36_102, s36_105, s36_108, s36_109, eq_self, ixk_some, bd_some, nl_n, nl_i, nl_r, Option.toList_some, Option.toList_none, List.cons_append, List.nil_append, ha, g1, g7, g8]
  cases hq : awy s i
  · rw [if_pos (show b2 false = 0 from rfl)]
    have e8 : (8 : Int32) = nI 9 + (-1) := by decide
    by_cases hx : c_nm s i ≤ x
    · rw [if_neg (by rw [Int32.not_lt]; exact hx), e8]
      obtain ⟨t, h1, h2⟩ := onward_loop (x := x) (d := 1) h hc hi (by decide) 9 none (by decide)
      have h2 : go 36 43 [some (vr 6 (some i)), some (vi x), some (vi 1), some (vi (nI 9 + (-1))), none] [] m = _ := h2
      refine ⟨if (aml s i x 1 9).isSome then 6 else 0, ?_, ?_⟩
      · simp only [onw, hq, hx, if_true, Bool.false_eq_true, if_false]
        cases aml s i x 1 9 <;> simp
      · rw [h2]
        simp only [onw, hq, hx, if_true, Bool.false_eq_true, if_false]
        cases aml s i x 1 9 <;> rfl
    · rw [if_pos (by rw [← Int32.not_le]; exact hx), e8]
      obtain ⟨t, h1, h2⟩ := onward_loop (x := x) (d := 0) h hc hi (by decide) 9 none (by decide)
      have h2 : go 36 43 [some (vr 6 (some i)), some (vi x), some (vi 0), some (vi (nI 9 + (-1))), none] [] m = _ := h2
      refine ⟨if (aml s i x 0 9).isSome then 6 else tgN s i 0, ?_, ?_⟩
      · simp only [onw, hq, hx, Bool.false_eq_true, if_false]
        cases aml s i x 0 9 with
        | some p => simp
        | none =>
          simp only [lnk, tgN]
          cases c_hs s i 0 <;> simp
      · rw [h2]
        simp only [onw, hq, hx, Bool.false_eq_true, if_false]
        cases aml s i x 0 9 <;> rfl
  · rw [if_neg (show ¬ b2 true = 0 by decide)]
    refine ⟨6, Or.inr rfl, ?_⟩
    simp only [onw, hq, if_true]
    cases h0 : c_ol s i 0 with
    | none => simp only [s36_0, s36_1, s36_4, s36_7, s36_8, s36_11n, s36_11s, s36_14, s36_15, s36_18, s36_21, s36_22, s36_25, s36_26, s36_27, s36_30, s36_31, s36_34, s36_35, s36_38, s36_39i, s36_39r, s36_39n, s36_40, s36_42i, s36_42r, s36_42n, s36_44, s36_47, s36_48, s36_49, s36_50, s36_53i, s36_53r, s36_53n, s36_55, s36_57n, s36_57s, s36_60, s36_61, s36_62, s36_65, s36_67, s36_70, s36_71, s36_74, s36_77, s36_79, s36_82, s36_83, s36_86, s36_88, s36_89i, s36_89r, s36_89n, s36_92, s36_95, s36_96, s36_99, s36_100, s36_101, s36_102, s36_105, s36_108, s36_109, eq_self, ixk_some, bd_some, nl_n, nl_i, nl_r, Option.toList_some, Option.toList_none, List.cons_append, List.nil_append, g8]
    | some p => simp only [s36_0, s36_1, s36_4, s36_7, s36_8, s36_11n, s36_11s, s36_14, s36_15, s36_18, s36_21, s36_22, s36_25, s36_26, s36_27, s36_30, s36_31, s36_34, s36_35, s36_38, s36_39i, s36_39r, s36_39n, s36_40, s36_42i, s36_42r, s36_42n, s36_44, s36_47, s36_48, s36_49, s36_50, s36_53i, s36_53r, s36_53n, s36_55, s36_57n, s36_57s, s36_60, s36_61, s36_62, s36_65, s36_67, s36_70, s36_71, s36_74, s36_77, s36_79, s36_82, s36_83, s36_86, s36_88, s36_89i, s36_89r, s36_89n, s36_92, s36_95, s36_96, s36_99, s36_100, s36_101, s36_102, s36_105, s36_108, s36_109, eq_self, ixk_some, bd_some, nl_n, nl_i, nl_r, Option.toList_some, Option.toList_none, List.cons_append, List.nil_append, g7, h0]
