/-! the class: why, sound, row, keeper, name, beside -/
def rsW (w : Int32) (q : Nat × Nat × Nat) : Int32 := if w = 0 then nI q.1 else if w = 1 then nI q.2.1 else nI q.2.2
theorem enc_ne {s : ST} {u l x : Nat} (h : flt s u l = some x) : ¬ nI x = -4 := by
  unfold flt at h
  split at h
  · cases h; decide
  · split at h
    · cases h
    · split at h
      · cases h; decide
      · split at h
        · cases h; decide
        · cases h
theorem why_in {s : ST} {m : MM} {p : Nat} {w : Int32} (h : RCp s m) (hp : p < c_n s) (R : Option RS) (hR : ∀ a3 a4 : Option AV, go 90 13 [some (vr 7 (some 0)), some (vi w), some (vi (nI (p + 1))), a3, a4] [] m = R) : ∀ d l (a4 : Option AV), l + d = 9 →
    go 90 23 [some (vr 7 (some 0)), some (vi w), some (vi (nI p)), some (vi (nI l)), a4] [] m = (match (if c_be s p = 2 then wlF s p d l else none) with | some q => some (some (vi (rsW w (p, q.1, q.2))), m) | none => R) := by
  have h' := h
  obtain ⟨h1, h2, h3, h4, h5, h6, h7⟩ := h
  have hix := ix_nI (i := p) (n := mN m 16 0) (by rw [h4]; omega) (by rw [h4]; decide)
  have g3 := (h7 p hp).2.2.2.1
  intro d
  induction d with
  | zero =>
    intro l a4 hl
    rw [s90_23]
    simp only [s90_0, s90_1, s90_4, s90_5, s90_6, s90_9, s90_10, s90_11, s90_12i, s90_12r, s90_12n, s90_14, s90_15, s90_18, s90_21, s90_22i, s90_22r, s90_22n, s90_24, s90_26, s90_29, s90_30, s90_33, s90_34, s90_35, s90_38, s90_39, s90_42, s90_43, s90_44, s90_47, s90_48, s90_49, s90_50, s90_53, s90_56, s90_58i, s90_58r, s90_58n, s90_60, s90_62, s90_64, s90_67, s90_68, s90_71, s90_72, s90_75, s90_76, s90_77, s90_80, s90_81, s90_84, s90_86, s90_87i, s90_87r, s90_87n, s90_90, s90_93i, s90_93r, s90_93n, s90_96, s90_99, s90_101, eq_self, ixk_some, bd_some, nl_n, nl_i, nl_r, Option.toList_some, Option.toList_none, List.cons_append, List.nil_append]
    rw [nI_k9, if_pos (nI_le (by omega) (by omega)), nI_1, hR]
    cases hq : (if c_be s p = 2 then wlF s p 0 l else none) with
    | none => rfl
    | some q =>
      split at hq
      · cases hq
      · cases hq
  | succ d ih =>
    intro l a4 hl
    have hf := go_faultAt h' hp (show l < 9 by omega)
    rw [s90_23]
    simp only [s90_0, s90_1, s90_4, s90_5, s90_6, s90_9, s90_10, s90_11, s90_12i, s90_12r, s90_12n, s90_14, s90_15, s90_18, s90_21, s90_22i, s90_22r, s90_22n, s90_24, s90_26, s90_29, s90_30, s90_33, s90_34, s90_35, s90_38, s90_39, s90_42, s90_43, s90_44, s90_47, s90_48, s90_49, s90_50, s90_53, s90_56, s90_58i, s90_58r, s90_58n, s90_60, s90_62, s90_64, s90_67, s90_68, s90_71, s90_72, s90_75, s90_76, s90_77, s90_80, s90_81, s90_84, s90_86, s90_87i, s90_87r, s90_87n, s90_90, s90_93i, s90_93r, s90_93n, s90_96, s90_99, s90_101, eq_self, ixk_some, bd_some, nl_n, nl_i, nl_r, Option.toList_some, Option.toList_none, List.cons_append, List.nil_append, h3, hix, h5 p hp, g3, hf]
    rw [nI_k9, if_neg (nI_ge (by omega) (by omega)), nI_1]
    by_cases hb : c_be s p = 2
    · rw [if_neg (by rw [hb]; decide)]
      simp only [hb, if_true] at ih ⊢
      cases hq : flt s p l with
      | none =>
        rw [if_pos (show enc none = -4 from rfl), ih (l + 1) _ (by omega)]
        simp only [wlF, hq]
      | some x =>
        rw [if_neg (show ¬ enc (some x) = -4 from enc_ne hq)]
        simp only [wlF, hq, rsW, enc]
        by_cases w0 : w = 0
        · subst w0; rw [if_neg (by decide), if_pos rfl]
        · rw [if_pos w0, if_neg w0]
          by_cases w1 : w = 1
          · subst w1; rw [if_neg (by decide), if_pos rfl]
          · rw [if_pos w1, if_neg w1]
    · rw [if_pos (be_ne2 (h6 p hp) hb)]
      simp only [hb, if_false] at ih ⊢
      simp only [if_true]
      rw [ih (l + 1) _ (by omega)]
theorem why_out {s : ST} {m : MM} {w : Int32} (h : RCp s m) : ∀ d p (a3 a4 : Option AV), p + d = c_n s →
    go 90 13 [some (vr 7 (some 0)), some (vi w), some (vi (nI p)), a3, a4] [] m = (match wpF s d p with | some q => some (some (vi (rsW w q)), m) | none => some (some (vi (-4)), m)) := by
  intro d
  induction d with
  | zero =>
    intro p a3 a4 hp
    rw [s90_13]
    simp only [s90_0, s90_1, s90_4, s90_5, s90_6, s90_9, s90_10, s90_11, s90_12i, s90_12r, s90_12n, s90_14, s90_15, s90_18, s90_21, s90_22i, s90_22r, s90_22n, s90_24, s90_26, s90_29, s90_30, s90_33, s90_34, s90_35, s90_38, s90_39, s90_42, s90_43, s90_44, s90_47, s90_48, s90_49, s90_50, s90_53, s90_56, s90_58i, s90_58r, s90_58n, s90_60, s90_62, s90_64, s90_67, s90_68, s90_71, s90_72, s90_75, s90_76, s90_77, s90_80, s90_81, s90_84, s90_86, s90_87i, s90_87r, s90_87n, s90_90, s90_93i, s90_93r, s90_93n, s90_96, s90_99, s90_101, eq_self, ixk_some, bd_some, nl_n, nl_i, nl_r, Option.toList_some, Option.toList_none, List.cons_append, List.nil_append, h.2.1]
    rw [if_pos (nI_le (by omega) (by have := h.1; omega))]
    rfl
  | succ d ih =>
    intro p a3 a4 hp
    rw [s90_13]
    simp only [s90_0, s90_1, s90_4, s90_5, s90_6, s90_9, s90_10, s90_11, s90_12i, s90_12r, s90_12n, s90_14, s90_15, s90_18, s90_21, s90_22i, s90_22r, s90_22n, s90_24, s90_26, s90_29, s90_30, s90_33, s90_34, s90_35, s90_38, s90_39, s90_42, s90_43, s90_44, s90_47, s90_48, s90_49, s90_50, s90_53, s90_56, s90_58i, s90_58r, s90_58n, s90_60, s90_62, s90_64, s90_67, s90_68, s90_71, s90_72, s90_75, s90_76, s90_77, s90_80, s90_81, s90_84, s90_86, s90_87i, s90_87r, s90_87n, s90_90, s90_93i, s90_93r, s90_93n, s90_96, s90_99, s90_101, eq_self, ixk_some, bd_some, nl_n, nl_i, nl_r, Option.toList_some, Option.toList_none, List.cons_append, List.nil_append, h.2.1]
    rw [if_neg (nI_ge (by omega) (by have := h.1; omega)), nI_k0, why_in h (show p < c_n s by omega) _ (fun a3 a4 => ih (p + 1) a3 a4 (by omega)) 9 0 a4 rfl]
    cases hq : (if c_be s p = 2 then wlF s p 9 0 else none) with
    | none => simp only [wpF, hq]
    | some q => simp only [wpF, hq]
theorem go_why {s : ST} {m : MM} {w : Int32} (h : RCp s m) : go 90 0 [some (vr 7 (some 0)), some (vi w), none, none, none] [] m = some (some (vi (o_why s w)), m) := by
  simp only [s90_0, s90_1, s90_4, s90_5, s90_6, s90_9, s90_10, s90_11, s90_12i, s90_12r, s90_12n, eq_self, ixk_some, bd_some, nl_n, nl_i, nl_r, Option.toList_some, Option.toList_none, List.cons_append, List.nil_append]
  have e2 : (2 : Int32).toInt = 2 := by decide
  by_cases h0 : w < 0
  · rw [if_pos h0]
    rw [Int32.lt_iff_toInt_lt, Int32.toInt_zero] at h0
    unfold o_why
    rw [if_neg (by omega)]
  · rw [if_neg h0]
    rw [Int32.lt_iff_toInt_lt, Int32.toInt_zero] at h0
    by_cases h2 : w ≤ 2
    · rw [if_pos h2, nI_k0, why_out h (c_n s) 0 none none (by omega)]
      rw [Int32.le_iff_toInt_le, e2] at h2
      unfold o_why jud
      rw [if_pos (by omega)]
      cases wpF s (c_n s) 0 <;> rfl
    · rw [if_neg h2]
      rw [Int32.le_iff_toInt_le, e2] at h2
      unfold o_why
      rw [if_neg (by omega)]
theorem go_sound {s : ST} {m : MM} (h : RCp s m) : go 89 0 [some (vr 7 (some 0))] [] m = some (some (vi (o_sound s)), m) := by
  have hw := go_why (w := 0) h
  have ew : o_why s 0 = (match jud s with | none => -4 | some q => nI q.1) := by
    unfold o_why
    rw [if_pos (by decide)]
    cases jud s <;> rfl
  simp only [s89_0, s89_1, s89_2, s89_5, s89_7, s89_10, s89_11, s89_14, s89_15, eq_self, ixk_some, bd_some, nl_n, nl_i, nl_r, Option.toList_some, Option.toList_none, List.cons_append, List.nil_append, hw, ew]
  unfold o_sound
  cases hj : jud s with
  | none => simp
  | some q =>
    have hq : q.1 < c_n s := by
      have : ∀ d p q, p + d = c_n s → wpF s d p = some q → q.1 < c_n s := by
        intro d
        induction d with
        | zero => intro p q _ hq; cases hq
        | succ d ih =>
          intro p q hp hq
          unfold wpF at hq
          split at hq
          · cases hq; show p < c_n s; omega
          · exact ih (p + 1) q (by omega) hq
      exact this (c_n s) 0 q (by omega) hj
    have h1 := h.1
    have hne : ¬ nI q.1 = -4 := by
      intro e
      have h3 := congrArg Int32.toInt e
      rw [nI_toInt (by omega)] at h3
      have h4 : (-4 : Int32).toInt = -4 := by decide
      rw [h4] at h3; omega
    simp [hne]
