/-! the class: name, beside, row, told, keeper -/
theorem isP_cases (s : ST) (p : Int32) : isP s p = false ∨ (isP s p = true ∧ p.toInt.toNat < c_n s ∧ p = nI p.toInt.toNat) := by
  cases h : isP s p
  · exact Or.inl rfl
  · refine Or.inr ⟨rfl, ?_⟩
    unfold isP at h
    have h := of_decide_eq_true h
    refine ⟨by omega, ?_⟩
    apply Int32.toInt_inj.mp
    have hb := Int32.toInt_lt p
    rw [nI_toInt (by omega)]
    omega
theorem go_name {s : ST} {m : MM} {p : Int32} (h : RCp s m) : go 83 0 [some (vr 7 (some 0)), some (vi p), none] [] m = some (some (vi (o_name s p)), m) := by
  have hp := go_peerAt (p := p) h
  unfold o_name
  rcases isP_cases s p with h0 | ⟨h0, h1, h2⟩
  · simp only [h0, Bool.false_eq_true, if_false] at hp ⊢
    simp only [s83_0, s83_1, s83_2, s83_5i, s83_5r, s83_5n, s83_6, s83_7n, s83_7s, s83_10, s83_11, s83_14, s83_17, s83_18, eq_self, ixk_some, bd_some, nl_n, nl_i, nl_r, Option.toList_some, Option.toList_none, List.cons_append, List.nil_append, hp]
  · have g := (h.2.2.2.2.2.2 _ h1).2.1
    simp only [h0, if_true] at hp ⊢
    simp only [s83_0, s83_1, s83_2, s83_5i, s83_5r, s83_5n, s83_6, s83_7n, s83_7s, s83_10, s83_11, s83_14, s83_17, s83_18, eq_self, ixk_some, bd_some, nl_n, nl_i, nl_r, Option.toList_some, Option.toList_none, List.cons_append, List.nil_append, hp, g]
theorem x_lev {x : Int32} {n : Nat} (h : 0 ≤ x.toInt ∧ x.toInt ≤ n) : x.toInt.toNat ≤ n ∧ x = nI x.toInt.toNat := by
  refine ⟨by omega, ?_⟩
  apply Int32.toInt_inj.mp
  have hb := Int32.toInt_lt x
  rw [nI_toInt (by omega)]
  omega
theorem go_beside {s : ST} {m : MM} {p l d : Int32} (h : RCp s m) (hc : CLs s) : go 84 0 [some (vr 7 (some 0)), some (vi p), some (vi l), some (vi d), none] [] m = some (some (vi (o_beside s p l d)), m) := by
  have hp := go_peerAt (p := p) h
  have hl := go_isLevel (m := m) (x := l)
  have e1 : (1 : Int32).toInt = 1 := by decide
  unfold o_beside
  rcases isP_cases s p with h0 | ⟨h0, h1, h2⟩
  · simp only [h0, Bool.false_eq_true, if_false] at hp ⊢
    simp only [s84_0, s84_1, s84_2, s84_5i, s84_5r, s84_5n, s84_7, s84_9n, s84_9s, s84_12, s84_13, s84_16, s84_19, s84_20, s84_23, s84_24, s84_25, s84_28, s84_29, s84_30, s84_32, s84_33, s84_36, s84_39, s84_41, s84_42, s84_44, s84_45, s84_46, s84_49, s84_52, eq_self, ixk_some, bd_some, nl_n, nl_i, nl_r, Option.toList_some, Option.toList_none, List.cons_append, List.nil_append, hp]
    simp
  · simp only [h0, if_true] at hp ⊢
    simp only [s84_0, s84_1, s84_2, s84_5i, s84_5r, s84_5n, s84_7, s84_9n, s84_9s, s84_12, s84_13, s84_16, s84_19, s84_20, s84_23, s84_24, s84_25, s84_28, s84_29, s84_30, s84_32, s84_33, s84_36, s84_39, s84_41, s84_42, s84_44, s84_45, s84_46, s84_49, s84_52, eq_self, ixk_some, bd_some, nl_n, nl_i, nl_r, Option.toList_some, Option.toList_none, List.cons_append, List.nil_append, hp, hl]
    by_cases hl8 : 0 ≤ l.toInt ∧ l.toInt ≤ 8
    · rw [decide_eq_true hl8, if_neg (show ¬ b2 true = 0 by decide)]
      obtain ⟨l1, l2⟩ := x_lev (n := 8) hl8
      by_cases d0 : d < 0
      · rw [if_pos d0]
        rw [Int32.lt_iff_toInt_lt, Int32.toInt_zero] at d0
        rw [if_pos (by right; right; omega)]
      · rw [if_neg d0]
        rw [Int32.lt_iff_toInt_lt, Int32.toInt_zero] at d0
        by_cases d1 : d ≤ 1
        · rw [if_pos d1]
          rw [Int32.le_iff_toInt_le, e1] at d1
          obtain ⟨q1, q2⟩ := x_lev (x := d) (n := 1) (by omega)
          have hh := go_hasPlace (l := l.toInt.toNat) h h1 (by omega)
          rw [← l2] at hh
          have hn := go_next (l := l.toInt.toNat) (d := d.toInt.toNat) h h1 (by omega) (by omega)
          rw [← l2, ← q2] at hn
          have hno := go_numberOf (m := m) (t := tgN s p.toInt.toNat l.toInt.toNat) (o := lnk s p.toInt.toNat l.toInt.toNat d.toInt.toNat) h (tgN_ok s _ _ _) (fun x hx => cls_lnk hc h1 hx)
          simp only [hh, hn, hno, bd_some, Option.toList_some, List.cons_append, List.nil_append, s84_0, s84_1, s84_2, s84_5i, s84_5r, s84_5n, s84_7, s84_9n, s84_9s, s84_12, s84_13, s84_16, s84_19, s84_20, s84_23, s84_24, s84_25, s84_28, s84_29, s84_30, s84_32, s84_33, s84_36, s84_39, s84_41, s84_42, s84_44, s84_45, s84_46, s84_49, s84_52]
          have d01 : 0 ≤ d.toInt ∧ d.toInt ≤ 1 := by omega
          have l9 : l.toInt.toNat < 9 := by omega
          generalize l.toInt.toNat = L at l9 ⊢
          generalize p.toInt.toNat = P1
          generalize d.toInt.toNat = D1
          cases hq : c_hs s P1 L
          · simp [b2, l9, hl8, d01]
          · simp [b2, l9, hl8, d01, lnk, hq]
        · rw [if_neg d1]
          rw [Int32.le_iff_toInt_le, e1] at d1
          rw [if_pos (by right; right; omega)]
    · rw [decide_eq_false hl8, if_pos (show b2 false = 0 from rfl)]
      rw [if_pos (by right; left; exact hl8)]
theorem row_loop {s : ST} {m : MM} {u l : Nat} {i x : Int32} (h : RCp s m) (hu : u < c_n s) : ∀ d q, q + d = c_n s →
    go 88 24 [some (vr 7 (some 0)), some (vi x), some (vi (nI l)), some (vi i), some (vr 6 (some u)), some (vi (nI q))] [] m = some (some (vi (rwF s u l i d q)), m) := by
  have h' := h
  obtain ⟨h1, h2, h3, h4, h5, h6, h7⟩ := h
  intro d
  induction d with
  | zero =>
    intro q hq
    rw [s88_24]
    simp only [s88_0, s88_1, s88_2, s88_5i, s88_5r, s88_5n, s88_7, s88_9n, s88_9s, s88_12, s88_13, s88_16, s88_19, s88_20, s88_21, s88_22i, s88_22r, s88_22n, s88_26, s88_27, s88_30, s88_33, s88_34, s88_37, s88_39, s88_40, s88_42, s88_43, s88_46, s88_49, s88_50, s88_51, s88_54, s88_56, s88_57, s88_59, s88_60, s88_63, s88_64, s88_67, s88_69, s88_70i, s88_70r, s88_70n, s88_73, s88_76, s88_78, eq_self, ixk_some, bd_some, nl_n, nl_i, nl_r, Option.toList_some, Option.toList_none, List.cons_append, List.nil_append, h2]
    rw [if_pos (nI_le (by omega) (by omega))]
    rfl
  | succ d ih =>
    intro q hq
    have hix := ix_nI (i := q) (n := mN m 16 0) (by rw [h4]; omega) (by rw [h4]; decide)
    have hr := go_isInRow (l := l) h' (show q < c_n s by omega) hu
    have hk := go_rankInRow (l := l) h' (show q < c_n s by omega) hu
    rw [s88_24]
    simp only [s88_0, s88_1, s88_2, s88_5i, s88_5r, s88_5n, s88_7, s88_9n, s88_9s, s88_12, s88_13, s88_16, s88_19, s88_20, s88_21, s88_22i, s88_22r, s88_22n, s88_26, s88_27, s88_30, s88_33, s88_34, s88_37, s88_39, s88_40, s88_42, s88_43, s88_46, s88_49, s88_50, s88_51, s88_54, s88_56, s88_57, s88_59, s88_60, s88_63, s88_64, s88_67, s88_69, s88_70i, s88_70r, s88_70n, s88_73, s88_76, s88_78, eq_self, ixk_some, bd_some, nl_n, nl_i, nl_r, Option.toList_some, Option.toList_none, List.cons_append, List.nil_append, h2, h3, hix, h5 q (by omega), hr, hk]
    rw [if_neg (nI_ge (by omega) (by omega)), nI_1, ih (q + 1) (by omega)]
    cases hb : (c_be s q == 2 && like s u q l)
    · rw [if_pos (show b2 false = 0 from rfl)]
      have : ¬ (c_be s q = 2 ∧ like s u q l = true ∧ nI (rkF s u l q) = i) := fun z => by simp [z.1, z.2.1] at hb
      rw [rwF, if_neg this]
    · rw [if_neg (show ¬ b2 true = 0 by decide)]
      simp only [Bool.and_eq_true, beq_iff_eq] at hb
      by_cases he : nI (rkF s u l q) = i
      · rw [if_neg (fun z => z he), rwF, if_pos ⟨hb.1, hb.2, he⟩]
      · rw [if_pos he, rwF, if_neg (fun z => he z.2.2)]
theorem go_row {s : ST} {m : MM} {p l i : Int32} (h : RCp s m) : go 88 0 [some (vr 7 (some 0)), some (vi p), some (vi l), some (vi i), none, none] [] m = some (some (vi (o_row s p l i)), m) := by
  have hp := go_peerAt (p := p) h
  have hl := go_isLevel (m := m) (x := l)
  unfold o_row
  rcases isP_cases s p with h0 | ⟨h0, h1, h2⟩
  · simp only [h0, Bool.false_eq_true, if_false] at hp ⊢
    simp only [s88_0, s88_1, s88_2, s88_5i, s88_5r, s88_5n, s88_7, s88_9n, s88_9s, s88_12, s88_13, s88_16, s88_19, s88_20, s88_21, s88_22i, s88_22r, s88_22n, s88_26, s88_27, s88_30, s88_33, s88_34, s88_37, s88_39, s88_40, s88_42, s88_43, s88_46, s88_49, s88_50, s88_51, s88_54, s88_56, s88_57, s88_59, s88_60, s88_63, s88_64, s88_67, s88_69, s88_70i, s88_70r, s88_70n, s88_73, s88_76, s88_78, eq_self, ixk_some, bd_some, nl_n, nl_i, nl_r, Option.toList_some, Option.toList_none, List.cons_append, List.nil_append, hp]
    simp
  · simp only [h0, if_true] at hp ⊢
    simp only [s88_0, s88_1, s88_2, s88_5i, s88_5r, s88_5n, s88_7, s88_9n, s88_9s, s88_12, s88_13, s88_16, s88_19, s88_20, s88_21, s88_22i, s88_22r, s88_22n, s88_26, s88_27, s88_30, s88_33, s88_34, s88_37, s88_39, s88_40, s88_42, s88_43, s88_46, s88_49, s88_50, s88_51, s88_54, s88_56, s88_57, s88_59, s88_60, s88_63, s88_64, s88_67, s88_69, s88_70i, s88_70r, s88_70n, s88_73, s88_76, s88_78, eq_self, ixk_some, bd_some, nl_n, nl_i, nl_r, Option.toList_some, Option.toList_none, List.cons_append, List.nil_append, hp, hl]
    by_cases hl8 : 0 ≤ l.toInt ∧ l.toInt ≤ 8
    · rw [decide_eq_true hl8, if_pos (show ¬ b2 true = 0 by decide)]
      obtain ⟨l1, l2⟩ := x_lev (n := 8) hl8
      have := row_loop (l := l.toInt.toNat) (i := i) (x := p) h h1 (c_n s) 0 (by omega)
      rw [← l2] at this
      rw [nI_k0, this]
      simp [hl8]
    · rw [decide_eq_false hl8, if_neg (show ¬ ¬ b2 false = 0 from fun z => z rfl)]
      simp [hl8]
