/-! the class: keeper -/
theorem keep_loop {s : ST} {m : MM} {key : Int32} (h : RCp s m) : ∀ d p t1 t2 (least best : Option Nat) (a5 : Option AV), p + d = c_n s → (least = none ∨ t1 = 6) → (best = none ∨ t2 = 6) → (∀ x, least = some x → x < c_n s) → (∀ x, best = some x → x < c_n s) →
    go 87 7 [some (vr 7 (some 0)), some (vi key), some (vr t1 least), some (vr t2 best), some (vi (nI p)), a5] [] m = some (some (vi (match kpF s key d p best least with | (some b, _) => nI b | (none, q) => enc q)), m) := by
  have h' := h
  obtain ⟨h1, h2, h3, h4, h5, h6, h7⟩ := h
  intro d
  induction d with
  | zero =>
    intro p t1 t2 least best a5 hp ht1 ht2 hl hb
    rw [s87_7]
    simp only [s87_0, s87_1i, s87_1r, s87_1n, s87_2, s87_3i, s87_3r, s87_3n, s87_4, s87_5i, s87_5r, s87_5n, s87_9, s87_10, s87_13, s87_16, s87_17, s87_20, s87_22, s87_23i, s87_23r, s87_23n, s87_25, s87_27, s87_30, s87_31, s87_34, s87_37, s87_38n, s87_38s, s87_41, s87_43, s87_46, s87_47, s87_50, s87_53, s87_55i, s87_55r, s87_55n, s87_56, s87_58, s87_61, s87_62, s87_65, s87_66n, s87_66s, s87_69, s87_71, s87_74, s87_75, s87_78, s87_81, s87_83i, s87_83r, s87_83n, s87_84i, s87_84r, s87_84n, s87_87, s87_90, s87_94, s87_95, s87_98, s87_99, s87_102, eq_self, ixk_some, bd_some, nl_n, nl_i, nl_r, Option.toList_some, Option.toList_none, List.cons_append, List.nil_append, h2]
    rw [if_pos (nI_le (by omega) (by omega))]
    cases best with
    | none =>
      have hn := go_numberOf (m := m) (t := t1) (o := least) h' ht1 hl
      simp only [s87_0, s87_1i, s87_1r, s87_1n, s87_2, s87_3i, s87_3r, s87_3n, s87_4, s87_5i, s87_5r, s87_5n, s87_9, s87_10, s87_13, s87_16, s87_17, s87_20, s87_22, s87_23i, s87_23r, s87_23n, s87_25, s87_27, s87_30, s87_31, s87_34, s87_37, s87_38n, s87_38s, s87_41, s87_43, s87_46, s87_47, s87_50, s87_53, s87_55i, s87_55r, s87_55n, s87_56, s87_58, s87_61, s87_62, s87_65, s87_66n, s87_66s, s87_69, s87_71, s87_74, s87_75, s87_78, s87_81, s87_83i, s87_83r, s87_83n, s87_84i, s87_84r, s87_84n, s87_87, s87_90, s87_91n, s87_91s, s87_94, s87_95, s87_98, s87_99, s87_102, eq_self, ixk_some, bd_some, nl_n, nl_i, nl_r, Option.toList_some, Option.toList_none, List.cons_append, List.nil_append, hn]; rfl
    | some x =>
      have hn := go_numberOf (m := m) (t := t2) (o := some x) h' ht2 hb
      simp only [s87_0, s87_1i, s87_1r, s87_1n, s87_2, s87_3i, s87_3r, s87_3n, s87_4, s87_5i, s87_5r, s87_5n, s87_9, s87_10, s87_13, s87_16, s87_17, s87_20, s87_22, s87_23i, s87_23r, s87_23n, s87_25, s87_27, s87_30, s87_31, s87_34, s87_37, s87_38n, s87_38s, s87_41, s87_43, s87_46, s87_47, s87_50, s87_53, s87_55i, s87_55r, s87_55n, s87_56, s87_58, s87_61, s87_62, s87_65, s87_66n, s87_66s, s87_69, s87_71, s87_74, s87_75, s87_78, s87_81, s87_83i, s87_83r, s87_83n, s87_84i, s87_84r, s87_84n, s87_87, s87_90, s87_91n, s87_91s, s87_94, s87_95, s87_98, s87_99, s87_102, eq_self, ixk_some, bd_some, nl_n, nl_i, nl_r, Option.toList_some, Option.toList_none, List.cons_append, List.nil_append, hn]; rfl
  | succ d ih =>
    intro p t1 t2 least best a5 hp ht1 ht2 hl hb
    have hix := ix_nI (i := p) (n := mN m 16 0) (by rw [h4]; omega) (by rw [h4]; decide)
    have hpn : p < c_n s := by omega
    have g1 := (h7 p hpn).2.1
    have g3 := (h7 p hpn).2.2.2.1
    rw [s87_7]
    simp only [s87_0, s87_1i, s87_1r, s87_1n, s87_2, s87_3i, s87_3r, s87_3n, s87_4, s87_5i, s87_5r, s87_5n, s87_9, s87_10, s87_13, s87_16, s87_17, s87_20, s87_22, s87_23i, s87_23r, s87_23n, s87_25, s87_27, s87_30, s87_31, s87_34, s87_37, s87_41, s87_43, s87_46, s87_47, s87_50, s87_53, s87_55i, s87_55r, s87_55n, s87_56, s87_58, s87_61, s87_62, s87_65, s87_69, s87_71, s87_74, s87_75, s87_78, s87_81, s87_83i, s87_83r, s87_83n, s87_84i, s87_84r, s87_84n, s87_87, s87_90, s87_91n, s87_91s, s87_94, s87_95, s87_98, s87_99, s87_102, eq_self, ixk_some, bd_some, nl_n, nl_i, nl_r, Option.toList_some, Option.toList_none, List.cons_append, List.nil_append, h2, h3, hix, h5 p hpn, g1, g3]
    rw [if_neg (nI_ge (by omega) (by omega)), nI_1]
    by_cases hbe : c_be s p = 2
    · rw [if_pos (by rw [hbe]; rfl)]
      have step : ∀ t1 (least' : Option Nat), (least' = none ∨ t1 = 6) → (∀ x, least' = some x → x < c_n s) → go 87 56 [some (vr 7 (some 0)), some (vi key), some (vr t1 least'), some (vr t2 best), some (vi (nI p)), some (vr 6 (some p))] [] m = some (some (vi (match kpF s key d (p + 1) (if c_nm s p ≤ key ∧ ltO s best p = true then some p else best) least' with | (some b, _) => nI b | (none, q) => enc q)), m) := by
        intro t1 least' ht1 hl
        simp only [s87_0, s87_1i, s87_1r, s87_1n, s87_2, s87_3i, s87_3r, s87_3n, s87_4, s87_5i, s87_5r, s87_5n, s87_9, s87_10, s87_13, s87_16, s87_17, s87_20, s87_22, s87_23i, s87_23r, s87_23n, s87_25, s87_27, s87_30, s87_31, s87_34, s87_37, s87_38n, s87_38s, s87_41, s87_43, s87_46, s87_47, s87_50, s87_53, s87_55i, s87_55r, s87_55n, s87_56, s87_58, s87_61, s87_62, s87_65, s87_69, s87_71, s87_74, s87_75, s87_78, s87_81, s87_83i, s87_83r, s87_83n, s87_84i, s87_84r, s87_84n, s87_87, s87_90, s87_91n, s87_91s, s87_94, s87_95, s87_98, s87_99, s87_102, eq_self, ixk_some, bd_some, nl_n, nl_i, nl_r, Option.toList_some, Option.toList_none, List.cons_append, List.nil_append, g1, nI_1]
        by_cases hk : c_nm s p ≤ key
        · rw [if_neg (by rw [Int32.not_lt]; exact hk)]
          cases best with
          | none =>
            simp only [s87_0, s87_1i, s87_1r, s87_1n, s87_2, s87_3i, s87_3r, s87_3n, s87_4, s87_5i, s87_5r, s87_5n, s87_9, s87_10, s87_13, s87_16, s87_17, s87_20, s87_22, s87_23i, s87_23r, s87_23n, s87_25, s87_27, s87_30, s87_31, s87_34, s87_37, s87_38n, s87_38s, s87_41, s87_43, s87_46, s87_47, s87_50, s87_53, s87_55i, s87_55r, s87_55n, s87_56, s87_58, s87_61, s87_62, s87_65, s87_66n, s87_66s, s87_69, s87_71, s87_74, s87_75, s87_78, s87_81, s87_83i, s87_83r, s87_83n, s87_84i, s87_84r, s87_84n, s87_87, s87_90, s87_91n, s87_91s, s87_94, s87_95, s87_98, s87_99, s87_102, eq_self, ixk_some, bd_some, nl_n, nl_i, nl_r, Option.toList_some, Option.toList_none, List.cons_append, List.nil_append, nI_1]
            rw [if_pos ⟨hk, rfl⟩]
            exact ih (p + 1) t1 6 least' (some p) _ (by omega) ht1 (Or.inr rfl) hl (fun x hx => by cases hx; exact hpn)
          | some x =>
            obtain rfl : t2 = 6 := ht2.resolve_left (by simp)
            have gx := (h7 x (hb x rfl)).2.1
            simp only [s87_0, s87_1i, s87_1r, s87_1n, s87_2, s87_3i, s87_3r, s87_3n, s87_4, s87_5i, s87_5r, s87_5n, s87_9, s87_10, s87_13, s87_16, s87_17, s87_20, s87_22, s87_23i, s87_23r, s87_23n, s87_25, s87_27, s87_30, s87_31, s87_34, s87_37, s87_38n, s87_38s, s87_41, s87_43, s87_46, s87_47, s87_50, s87_53, s87_55i, s87_55r, s87_55n, s87_56, s87_58, s87_61, s87_62, s87_65, s87_66n, s87_66s, s87_69, s87_71, s87_74, s87_75, s87_78, s87_81, s87_83i, s87_83r, s87_83n, s87_84i, s87_84r, s87_84n, s87_87, s87_90, s87_91n, s87_91s, s87_94, s87_95, s87_98, s87_99, s87_102, eq_self, ixk_some, bd_some, nl_n, nl_i, nl_r, Option.toList_some, Option.toList_none, List.cons_append, List.nil_append, g1, gx, nI_1]
            by_cases hx : c_nm s x < c_nm s p
            · rw [if_neg (by rw [Int32.not_le]; exact hx), if_pos ⟨hk, by simp [ltO, hx]⟩]
              exact ih (p + 1) t1 6 least' (some p) _ (by omega) ht1 (Or.inr rfl) hl (fun x hx => by cases hx; exact hpn)
            · rw [if_pos (by rw [← Int32.not_lt]; exact hx), if_neg (fun z => by simp [ltO, hx] at z)]
              exact ih (p + 1) t1 6 least' (some x) _ (by omega) ht1 (Or.inr rfl) hl hb
        · rw [if_pos (by rw [← Int32.not_le]; exact hk), if_neg (fun z => hk z.1)]
          exact ih (p + 1) t1 t2 least' best _ (by omega) ht1 ht2 hl hb
      have ek : kpF s key (d + 1) p best least = kpF s key d (p + 1) (if c_nm s p ≤ key ∧ ltO s best p = true then some p else best) (if gtO s least p = true then some p else least) := by
        show (if c_be s p = 2 then _ else _) = _
        rw [if_pos hbe]
      rw [ek]
      cases least with
      | none =>
        simp only [s87_37, s87_38n, s87_38s, s87_41, s87_43, s87_46, s87_47, s87_50, s87_53, s87_55i, s87_55r, s87_55n, eq_self, ixk_some, bd_some, nl_n, nl_i, nl_r, Option.toList_some, Option.toList_none, List.cons_append, List.nil_append]
        exact step 6 (some p) (Or.inr rfl) (fun x hx => by cases hx; exact hpn)
      | some x =>
        obtain rfl : t1 = 6 := ht1.resolve_left (by simp)
        have gx := (h7 x (hl x rfl)).2.1
        simp only [s87_37, s87_38n, s87_38s, s87_41, s87_43, s87_46, s87_47, s87_50, s87_53, s87_55i, s87_55r, s87_55n, eq_self, ixk_some, bd_some, nl_n, nl_i, nl_r, Option.toList_some, Option.toList_none, List.cons_append, List.nil_append, g1, gx]
        by_cases hx : c_nm s p < c_nm s x
        · rw [if_neg (by rw [Int32.not_le]; exact hx), if_pos (show gtO s (some x) p = true by simp [gtO, hx])]
          exact step 6 (some p) (Or.inr rfl) (fun x hx => by cases hx; exact hpn)
        · rw [if_pos (by rw [← Int32.not_lt]; exact hx), if_neg (show ¬ gtO s (some x) p = true by simp [gtO, hx])]
          exact step 6 (some x) (Or.inr rfl) hl
    · rw [if_neg (be_ne2 (h6 p hpn) hbe), ih (p + 1) t1 t2 least best _ (by omega) ht1 ht2 hl hb]
      have ek : kpF s key (d + 1) p best least = kpF s key d (p + 1) best least := by
        show (if c_be s p = 2 then _ else _) = _
        rw [if_neg hbe]
      rw [ek]
theorem go_keeper {s : ST} {m : MM} {key : Int32} (h : RCp s m) : go 87 0 [some (vr 7 (some 0)), some (vi key), none, none, none, none] [] m = some (some (vi (o_keeper s key)), m) := by
  simp only [s87_0, s87_1i, s87_1r, s87_1n, s87_2, s87_3i, s87_3r, s87_3n, s87_4, s87_5i, s87_5r, s87_5n, eq_self, ixk_some, bd_some, nl_n, nl_i, nl_r, Option.toList_some, Option.toList_none, List.cons_append, List.nil_append]
  exact keep_loop h (c_n s) 0 0 0 none none none (by omega) (Or.inl rfl) (Or.inl rfl) (fun x hx => by cases hx) (fun x hx => by cases hx)
