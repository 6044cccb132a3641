/-! the class: Pairs.holds, Pairs.set -/
theorem bl_get {key : Int32} {L : PRS} : (bl key L < L.length ∧ ∃ q, L[bl key L]? = some q) ∨ (bl key L = L.length ∧ L[bl key L]? = none) := by
  have h := bl_le key L
  by_cases h1 : bl key L < L.length
  · exact Or.inl ⟨h1, _, List.getElem?_eq_getElem h1⟩
  · refine Or.inr ⟨by omega, ?_⟩
    exact List.getElem?_eq_none (by omega)
def hasK (key : Int32) (L : PRS) : Bool := decide ((L[bl key L]?).map Prod.fst = some key)
theorem go_holds {m : MM} {p : Nat} {L : PRS} {key : Int32} (h : RCl m p L) : go 17 0 [some (vr 5 (some p)), some (vi key), none] [] m = some (some (vi (b2 (hasK key L))), m) := by
  have hb := go_bl (key := key) h
  obtain ⟨⟨h1, h2, h3, h4, h5, h6⟩, h7⟩ := h
  simp only [s17_0, s17_1, s17_2, s17_5i, s17_5r, s17_5n, s17_6, s17_7, s17_8, s17_11, s17_14, s17_15, s17_18, s17_19, s17_20, s17_21, s17_24, s17_25, s17_28, s17_29b0, s17_29b1, eq_self, ixk_some, bd_some, nl_n, nl_i, nl_r, Option.toList_some, Option.toList_none, List.cons_append, List.nil_append, hb, h1, h3]
  rcases bl_get (key := key) (L := L) with ⟨g1, q, g2⟩ | ⟨g1, g2⟩
  · have hix := ix_nI (i := bl key L) (n := mN m 12 p) (by rw [h5]; omega) (by rw [h5]; decide)
    rw [if_neg (nI_ge g1 (by omega)), hix, ixk_some, (h7 _ q g2).1]
    unfold hasK
    rw [g2]
    by_cases hk : q.1 = key
    · simp [hk, b2]
    · simp [hk, b2]
  · rw [if_pos (by rw [g1]; exact nI_le (by omega) (by omega))]
    unfold hasK
    rw [g2]; simp [b2]
theorem go_set {m : MM} {p : Nat} {L : PRS} {key : Int32} {v : Int64} (h : RCl m p L) (hn : (ins L key v).length ≤ 16) : ∃ m', go 20 0 [some (vr 5 (some p)), some (vi key), some (vl v), none, none, none] [] m = some (none, m') ∧ RCl m' p (ins L key v) ∧ fr (QP p) m m' := by
  have hb := go_bl (key := key) h
  obtain ⟨⟨h1, h2, h3, h4, h5, h6⟩, h7⟩ := h
  by_cases hk : (L[bl key L]?).map Prod.fst = some key
  · obtain ⟨i1, i2⟩ := ins_rep (v := v) L hk
    rcases bl_get (key := key) (L := L) with ⟨g1, q, g2⟩ | ⟨g1, g2⟩
    · rw [g2] at hk
      have hq : q.1 = key := by simpa using hk
      have hix := ix_nI (i := bl key L) (n := mN m 12 p) (by rw [h5]; omega) (by rw [h5]; decide)
      have hix2 := ix_nI (i := bl key L) (n := mN m 13 p) (by rw [h6]; omega) (by rw [h6]; decide)
      refine ⟨sL m 13 p (bl key L) v, ?_, ⟨⟨h1, h2, by rw [i1]; exact h3, by omega, h5, h6⟩, fun j x hj => ?_⟩, fr_sL m v ⟨Or.inr (Or.inr rfl), rfl⟩⟩
      · simp only [s20_0, s20_1, s20_2, s20_5i, s20_5r, s20_5n, s20_7, s20_9, s20_10, s20_13, s20_16, s20_17, s20_20, s20_22, s20_23, s20_24, s20_27, s20_28, s20_31, s20_33, s20_34, s20_35, eq_self, ixk_some, bd_some, nl_n, nl_i, nl_r, Option.toList_some, Option.toList_none, List.cons_append, List.nil_append, hb, h1, h2, h3, hix, hix2, (h7 _ q g2).1, hq]
        rw [if_neg (nI_ge g1 (by omega))]
        simp
      · rw [i2 j] at hj
        rw [mI_sL, mL_sL]
        by_cases e : j = bl key L
        · rw [if_pos e] at hj
          cases hj
          rw [if_pos ⟨rfl, rfl, e⟩, e, (h7 _ q g2).1]
          exact ⟨hq, rfl⟩
        · rw [if_neg e] at hj
          rw [if_neg (fun z => e z.2.2)]
          exact h7 j x hj
    · rw [g2] at hk; simp at hk
  · obtain ⟨i1, i2⟩ := ins_new (v := v) L hk
    have hlt : L.length < 16 := by omega
    have hble := bl_le key L
    obtain ⟨d, hd⟩ : ∃ d, bl key L + d = L.length := ⟨L.length - bl key L, by omega⟩
    have hloop := set_loop (p := p) (a := bl key L) (key := key) (v := v) d m h5 h6 h1 h2 (by omega)
    rw [hd] at hloop
    have start : go 20 0 [some (vr 5 (some p)), some (vi key), some (vl v), none, none, none] [] m = go 20 52 [some (vr 5 (some p)), some (vi key), some (vl v), none, some (vi (nI (bl key L))), some (vi (nI L.length))] [] m := by
      have e16 : (16 : Int32) = nI 16 := rfl
      have mid : go 20 36 [some (vr 5 (some p)), some (vi key), some (vl v), none, some (vi (nI (bl key L))), none] [] m = go 20 52 [some (vr 5 (some p)), some (vi key), some (vl v), none, some (vi (nI (bl key L))), some (vi (nI L.length))] [] m := by
        simp only [s20_36, s20_37, s20_40, s20_42, s20_46, s20_47, s20_50i, s20_50r, s20_50n, eq_self, ixk_some, bd_some, nl_n, nl_i, nl_r, Option.toList_some, Option.toList_none, List.cons_append, List.nil_append, h3]
        rw [e16, if_pos (nI_lt hlt (by decide))]
      simp only [s20_0, s20_1, s20_2, s20_5i, s20_5r, s20_5n, s20_7, s20_9, s20_10, s20_13, s20_16, s20_17, s20_20, s20_22, s20_23, s20_24, eq_self, ixk_some, bd_some, nl_n, nl_i, nl_r, Option.toList_some, Option.toList_none, List.cons_append, List.nil_append, hb, h1, h3, mid]
      rcases bl_get (key := key) (L := L) with ⟨g1, q, g2⟩ | ⟨g1, g2⟩
      · have hix := ix_nI (i := bl key L) (n := mN m 12 p) (by rw [h5]; omega) (by rw [h5]; decide)
        rw [g2] at hk
        have hq : ¬ q.1 = key := by simpa using hk
        rw [if_neg (nI_ge g1 (by omega)), hix, ixk_some, (h7 _ q g2).1, if_pos hq]
      · rw [if_pos (by rw [g1]; exact nI_le (by omega) (by omega))]
    obtain ⟨s1, s2, s3, s4, s5, s6, s7⟩ := shM_get p (bl key L) d m
    have n12 : mN (shM m p (bl key L) d) 12 p = 16 := by rw [s5]; exact h5
    have n13 : mN (shM m p (bl key L) d) 13 p = 16 := by rw [s5]; exact h6
    have r0 : mR (shM m p (bl key L) d) 5 p 0 = some p := by rw [s3]; exact h1
    have r1 : mR (shM m p (bl key L) d) 5 p 1 = some p := by rw [s3]; exact h2
    have z2 : mI (shM m p (bl key L) d) 5 p 2 = nI L.length := by rw [s1, if_neg (by omega)]; exact h3
    have hix := ix_nI (i := bl key L) (n := 16) (by omega) (by decide)
    refine ⟨sI (sL (sI (shM m p (bl key L) d) 12 p (bl key L) key) 13 p (bl key L) v) 5 p 2 (nI (L.length + 1)), ?_, ⟨⟨r0, r1, ?_, by omega, n12, n13⟩, fun j x hj => ?_⟩, ?_⟩
    · rw [start, hloop, s20_97]
      simp only [s20_0, s20_1, s20_2, s20_5i, s20_5r, s20_5n, s20_7, s20_9, s20_10, s20_13, s20_16, s20_17, s20_20, s20_22, s20_23, s20_24, s20_27, s20_28, s20_31, s20_33, s20_34, s20_35, s20_36, s20_37, s20_40, s20_42, s20_45, s20_46, s20_47, s20_50i, s20_50r, s20_50n, s20_54, s20_56, s20_59, s20_60, s20_63, s20_65, s20_66, s20_69, s20_71, s20_72, s20_73, s20_74, s20_75, s20_76, s20_79, s20_81, s20_82, s20_85, s20_87, s20_88, s20_89, s20_90, s20_91i, s20_91r, s20_91n, s20_94, s20_98, s20_101, s20_103, s20_104, s20_105, s20_106, s20_109, s20_111, s20_112, s20_113, s20_114, s20_115, s20_118, s20_119, s20_120, s20_123, eq_self, ixk_some, bd_some, nl_n, nl_i, nl_r, Option.toList_some, Option.toList_none, List.cons_append, List.nil_append, mN_sI, mN_sL, mR_sI, mR_sL, mI_sL, mI_sI, n12, n13, r0, r1, hix, z2]
      simp [nI_1]
    · rw [mI_sI, if_pos ⟨rfl, rfl, rfl⟩, i1]
    · rw [i2 j] at hj
      simp only [mI_sI, mL_sI, mI_sL, mL_sL, s1, s2]
      by_cases e1 : j < bl key L
      · rw [if_pos e1] at hj
        have := h7 j x hj
        have c1 : ¬ (j = bl key L) := by omega
        have c2 : ¬ (bl key L < j ∧ j ≤ bl key L + d) := by omega
        simp [c1, c2, this]
      · rw [if_neg e1] at hj
        by_cases e2 : j = bl key L
        · rw [if_pos e2] at hj
          cases hj
          simp [e2]
        · rw [if_neg e2] at hj
          have hjl : j - 1 < L.length := (List.getElem?_eq_some_iff.mp hj).1
          have := h7 (j - 1) x hj
          have c2 : bl key L < j ∧ j ≤ bl key L + d := by omega
          simp [e2, c2, this]
    · refine fr_tr (b := shM m p (bl key L) d) ⟨fun r n k hq => ?_, fun r => by rw [s4], fun r n => by rw [s5], s6, s7⟩ (fr_tr (fr_sI _ key ⟨Or.inr (Or.inl rfl), rfl⟩) (fr_tr (fr_sL _ v ⟨Or.inr (Or.inr rfl), rfl⟩) (fr_sI _ _ ⟨Or.inl rfl, rfl⟩)))
      refine ⟨?_, ?_, by rw [s3]⟩
      · rw [s1, if_neg (fun z => hq ⟨Or.inr (Or.inl z.1), z.2.1⟩)]
      · rw [s2, if_neg (fun z => hq ⟨Or.inr (Or.inr z.1), z.2.1⟩)]
