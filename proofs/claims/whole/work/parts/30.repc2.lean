/-! the class's tables hold the state: the change, keys, asks, messages -/
def RCc (s : ST) (m : MM) : Prop := mR m 7 0 7 = some 0 ∧ mI m 2 0 0 = nI (c_ck s) ∧ c_ck s ≤ 3 ∧ mR m 2 0 1 = (if c_ck s = 0 then none else some (c_cp s)) ∧ mI m 2 0 2 = b2 (c_cu s) ∧ (c_ck s = 3 → mI m 2 0 3 = c_cb s) ∧ mR m 2 0 4 = some 0
def RCk (s : ST) (m : MM) : Prop := mI m 7 0 5 = nI (c_ev s).length ∧ (c_ev s).length ≤ 16 ∧ mR m 7 0 4 = some 0 ∧ mN m 18 0 = 16 ∧ (∀ i x, (c_ev s)[i]? = some x → mI m 18 0 i = x) ∧ mI m 7 0 8 = c_dr s
def RC2 (a : AK) (m : MM) (k : Nat) : Prop :=
  mI m 1 k 0 = nI k ∧ mI m 1 k 1 = nI (a_so a) ∧ mI m 1 k 2 = a_lo a ∧ mI m 1 k 3 = a_hi a ∧ mL m 1 k 4 = a_va a ∧ (a_dn a = false → mI m 1 k 5 = b2 (a_th a)) ∧ mI m 1 k 6 = b2 (a_dn a) ∧ mI m 1 k 7 = b2 (a_lt a) ∧ mI m 1 k 8 = a_an a ∧
  mI m 1 k 9 = nI (a_ps a) ∧ mI m 1 k 10 = nI (a_nt a) ∧ mR m 1 k 11 = some k ∧ mR m 1 k 12 = some k ∧ mN m 9 k = 40 ∧ mN m 10 k = (if a_so a = 1 then 40 else 0) ∧ (∀ i x, (a_wy a)[i]? = some x → mI m 9 k i = nI x) ∧ (a_so a = 1 → ∀ i x, (a_no a)[i]? = some x → mI m 10 k i = nI x)
/-- of an ask alone: its counts and lists -/
def AKo (a : AK) : Prop := a_so a ≤ 4 ∧ a_ps a < 2 ^ 30 ∧ a_nt a < 2 ^ 30 ∧ (a_wy a).length = min (a_ps a) 40 ∧ (a_no a).length = min (a_nt a) 40 ∧ (a_lt a = true → a_dn a = true) ∧ (a_so a = 4 → a_dn a = false → a_va a = 0)
def RCa (s : ST) (m : MM) : Prop := c_na s ≤ 160 ∧ mI m 7 0 3 = nI (c_na s) ∧ mR m 7 0 2 = some 0 ∧ mN m 17 0 = 160 ∧ (∀ k, k < c_na s → mR m 17 0 k = some k) ∧ (∀ k, k < c_na s → RC2 (c_ak s k) m k) ∧ ∀ k, k < c_na s → AKo (c_ak s k)
def RC3 (g : MSG) (m : MM) (n : Nat) : Prop := mI m 4 n 0 = nI (g_so g) ∧ mR m 4 n 1 = some (g_to g) ∧ mR m 4 n 2 = g_as g ∧ mI m 4 n 3 = enc (g_lv g) ∧ mI m 4 n 4 = nI (g_sd g) ∧ mR m 4 n 5 = g_lf g ∧ mR m 4 n 6 = g_rg g
def RCm (s : ST) (m : MM) : Prop := mR m 7 0 6 = some 0 ∧ mR m 3 0 0 = some 0 ∧ mN m 11 0 = 192 ∧ mI m 3 0 1 = nI (c_ms s).length ∧ (c_ms s).length ≤ 192 ∧ mI m 3 0 2 = nI (chM s) ∧ ∀ i g, (c_ms s)[i]? = some g → ∃ n, mR m 11 0 i = some n ∧ RC3 g m n
def GOK (s : ST) (g : MSG) : Prop := g_so g ≤ 10 ∧ g_to g < c_n s ∧ ∀ k, g_as g = some k → k < c_na s
theorem go_askAt {s : ST} {m : MM} {k : Int32} (h : RCa s m) : go 59 0 [some (vr 7 (some 0)), some (vi k)] [] m = some (some (if isA s k = true then vr 1 (some k.toInt.toNat) else vr 0 none), m) := by
  obtain ⟨h1, h2, h3, h4, h5, h6, h7⟩ := h
  simp only [s59_0, s59_1, s59_4, s59_5, s59_6, s59_9, s59_12, s59_13, s59_16, s59_17, s59_18, s59_21, s59_22, eq_self, ixk_some, bd_some, nl_n, nl_i, nl_r, Option.toList_some, Option.toList_none, List.cons_append, List.nil_append, h2, h3]
  rcases x_ix (n := c_na s) k (by omega) with ⟨a1, a2⟩ | ⟨a1, a2, a3⟩ | ⟨j, hj, rfl, a3⟩
  · rw [if_pos a1]; simp [isA, a2]
  · rw [if_neg a1, if_pos a2]; simp [isA, a3]
  · have hix := ix_nI (i := j) (n := mN m 17 0) (by rw [h4]; omega) (by rw [h4]; decide)
    rw [if_neg (nI_pos (by omega)), if_neg (nI_ge hj (by omega)), hix, ixk_some, h5 j hj]
    simp [isA, a3, hj]
theorem isA_cases (s : ST) (p : Int32) : isA s p = false ∨ (isA s p = true ∧ p.toInt.toNat < c_na s ∧ p = nI p.toInt.toNat) := by
  cases h : isA s p
  · exact Or.inl rfl
  · refine Or.inr ⟨rfl, ?_⟩
    unfold isA at h
    have h := of_decide_eq_true h
    refine ⟨by omega, ?_⟩
    apply Int32.toInt_inj.mp
    have hb := Int32.toInt_lt p
    rw [nI_toInt (by omega)]
    omega
theorem go_value {s : ST} {m : MM} {k : Int32} (h : RCa s m) : go 63 0 [some (vr 7 (some 0)), some (vi k), none] [] m = some (some (vl (o_value s k)), m) := by
  have hp := go_askAt (k := k) h
  unfold o_value
  rcases isA_cases s k with h0 | ⟨h0, h1, h2⟩
  · simp only [h0, Bool.false_eq_true, if_false, false_and] at hp ⊢
    simp only [s63_0, s63_1, s63_2, s63_5i, s63_5r, s63_5n, s63_6, s63_7n, s63_7s, s63_10, s63_11, s63_14, s63_15, s63_18, s63_19, s63_22, s63_25, s63_26, eq_self, ixk_some, bd_some, nl_n, nl_i, nl_r, Option.toList_some, Option.toList_none, List.cons_append, List.nil_append, hp]
  · simp only [h0, if_true, true_and] at hp ⊢
    obtain ⟨g0, g1, g2, g3, g4, -⟩ := h.2.2.2.2.2.1 _ h1
    obtain ⟨o1, o2, o3, o4, o5, o6, o7⟩ := h.2.2.2.2.2.2 _ h1
    simp only [s63_0, s63_1, s63_2, s63_5i, s63_5r, s63_5n, s63_6, s63_7n, s63_7s, s63_10, s63_11, s63_14, s63_15, s63_18, s63_19, s63_22, s63_25, s63_26, eq_self, ixk_some, bd_some, nl_n, nl_i, nl_r, Option.toList_some, Option.toList_none, List.cons_append, List.nil_append, hp, g1, g4]
    generalize c_ak s k.toInt.toNat = a at *
    by_cases h4 : a_so a = 4
    · rw [if_neg (by rw [h4]; decide)]
      cases hd : a_dn a
      · rw [o7 h4 hd]; simp
      · simp [h4]
    · rw [if_pos (by rw [show (4 : Int32) = nI 4 from rfl, nI_eq (by omega) (by omega)]; exact h4)]
      simp [h4]
theorem tsw_out {w : Int32} {n : Int} (h : ∀ j : Nat, (j : Int) ≤ n → w ≠ nI j) (hn : n < 100) : w.toInt < 0 ∨ n < w.toInt := by
  by_cases h0 : w.toInt < 0
  · exact Or.inl h0
  · right
    by_cases h1 : n < w.toInt
    · exact h1
    · exfalso
      refine h w.toInt.toNat (by omega) ?_
      apply Int32.toInt_inj.mp
      rw [nI_toInt (by omega)]
      omega
theorem go_ask {s : ST} {m : MM} {k w : Int32} (h : RCa s m) : go 60 0 [some (vr 7 (some 0)), some (vi k), some (vi w), none] [] m = some (some (vi (o_ask s k w)), m) := by
  have hp := go_askAt (k := k) h
  unfold o_ask
  rcases isA_cases s k with h0 | ⟨h0, h1, h2⟩
  · simp only [h0, Bool.false_eq_true, if_false] at hp ⊢
    simp only [s60_0, s60_1, s60_2, s60_5i, s60_5r, s60_5n, s60_6, s60_7n, s60_7s, s60_10, s60_11, s60_12, s60_13_0, s60_13_1, s60_13_2, s60_13_3, s60_13_4, s60_13_d, s60_48, s60_49, s60_52, s60_53, s60_54, s60_57, s60_60, s60_61, s60_64, s60_65, s60_66, s60_67, s60_70, s60_71, s60_72, s60_75, s60_76, s60_77, s60_80, s60_82, s60_85, s60_86, s60_87, eq_self, ixk_some, bd_some, nl_n, nl_i, nl_r, Option.toList_some, Option.toList_none, List.cons_append, List.nil_append, hp]
    simp
  · simp only [h0, if_true] at hp ⊢
    obtain ⟨g0, g1, g2, g3, g4, g5, g6, g7, g8, g9, -⟩ := h.2.2.2.2.2.1 _ h1
    obtain ⟨o1, o2, o3, o4, o5, o6, o7⟩ := h.2.2.2.2.2.2 _ h1
    simp only [s60_0, s60_1, s60_2, s60_5i, s60_5r, s60_5n, s60_6, s60_7n, s60_7s, s60_10, s60_11, s60_12, s60_48, s60_49, s60_52, s60_53, s60_54, s60_57, s60_60, s60_61, s60_64, s60_65, s60_66, s60_67, s60_70, s60_71, s60_72, s60_75, s60_76, s60_77, s60_80, s60_82, s60_85, s60_86, s60_87, eq_self, ixk_some, bd_some, nl_n, nl_i, nl_r, Option.toList_some, Option.toList_none, List.cons_append, List.nil_append, hp]
    generalize c_ak s k.toInt.toNat = a at *
    by_cases w0 : w = 0
    · subst w0; simp only [s60_0, s60_1, s60_2, s60_5i, s60_5r, s60_5n, s60_6, s60_7n, s60_7s, s60_10, s60_11, s60_12, s60_13_0, s60_13_1, s60_13_2, s60_13_3, s60_13_4, s60_13_d, s60_48, s60_49, s60_52, s60_53, s60_54, s60_57, s60_60, s60_61, s60_64, s60_65, s60_66, s60_67, s60_70, s60_71, s60_72, s60_75, s60_76, s60_77, s60_80, s60_82, s60_85, s60_86, s60_87, eq_self, ixk_some, bd_some, nl_n, nl_i, nl_r, Option.toList_some, Option.toList_none, List.cons_append, List.nil_append, g1]; simp
    by_cases w1 : w = 1
    · subst w1; simp only [s60_0, s60_1, s60_2, s60_5i, s60_5r, s60_5n, s60_6, s60_7n, s60_7s, s60_10, s60_11, s60_12, s60_13_0, s60_13_1, s60_13_2, s60_13_3, s60_13_4, s60_13_d, s60_48, s60_49, s60_52, s60_53, s60_54, s60_57, s60_60, s60_61, s60_64, s60_65, s60_66, s60_67, s60_70, s60_71, s60_72, s60_75, s60_76, s60_77, s60_80, s60_82, s60_85, s60_86, s60_87, eq_self, ixk_some, bd_some, nl_n, nl_i, nl_r, Option.toList_some, Option.toList_none, List.cons_append, List.nil_append, g6]
      cases a_dn a <;> simp [b2]
    by_cases w2 : w = 2
    · subst w2; simp only [s60_0, s60_1, s60_2, s60_5i, s60_5r, s60_5n, s60_6, s60_7n, s60_7s, s60_10, s60_11, s60_12, s60_13_0, s60_13_1, s60_13_2, s60_13_3, s60_13_4, s60_13_d, s60_48, s60_49, s60_52, s60_53, s60_54, s60_57, s60_60, s60_61, s60_64, s60_65, s60_66, s60_67, s60_70, s60_71, s60_72, s60_75, s60_76, s60_77, s60_80, s60_82, s60_85, s60_86, s60_87, eq_self, ixk_some, bd_some, nl_n, nl_i, nl_r, Option.toList_some, Option.toList_none, List.cons_append, List.nil_append, g8]; simp
    by_cases w3 : w = 3
    · subst w3; simp only [s60_0, s60_1, s60_2, s60_5i, s60_5r, s60_5n, s60_6, s60_7n, s60_7s, s60_10, s60_11, s60_12, s60_13_0, s60_13_1, s60_13_2, s60_13_3, s60_13_4, s60_13_d, s60_48, s60_49, s60_52, s60_53, s60_54, s60_57, s60_60, s60_61, s60_64, s60_65, s60_66, s60_67, s60_70, s60_71, s60_72, s60_75, s60_76, s60_77, s60_80, s60_82, s60_85, s60_86, s60_87, eq_self, ixk_some, bd_some, nl_n, nl_i, nl_r, Option.toList_some, Option.toList_none, List.cons_append, List.nil_append, g9]; simp
    by_cases w4 : w = 4
    · subst w4; simp only [s60_0, s60_1, s60_2, s60_5i, s60_5r, s60_5n, s60_6, s60_7n, s60_7s, s60_10, s60_11, s60_12, s60_13_0, s60_13_1, s60_13_2, s60_13_3, s60_13_4, s60_13_d, s60_48, s60_49, s60_52, s60_53, s60_54, s60_57, s60_60, s60_61, s60_64, s60_65, s60_66, s60_67, s60_70, s60_71, s60_72, s60_75, s60_76, s60_77, s60_80, s60_82, s60_85, s60_86, s60_87, eq_self, ixk_some, bd_some, nl_n, nl_i, nl_r, Option.toList_some, Option.toList_none, List.cons_append, List.nil_append, g9]
      have e40 : (40 : Int32) = nI 40 := rfl
      by_cases hlt : a_ps a ≤ 40
      · rw [e40, if_neg (nI_nlt hlt (by decide)), Nat.min_eq_left hlt]; simp
      · rw [e40, if_pos (nI_lt (by omega) (by omega)), Nat.min_eq_right (by omega)]; simp
    · have ho := tsw_out (w := w) (n := 4) (fun j hj => by
        match j, hj with
        | 0, _ => exact w0
        | 1, _ => exact w1
        | 2, _ => exact w2
        | 3, _ => exact w3
        | 4, _ => exact w4) (by decide)
      rw [s60_13_d ho]
      simp only [s60_0, s60_1, s60_2, s60_5i, s60_5r, s60_5n, s60_6, s60_7n, s60_7s, s60_10, s60_11, s60_12, s60_48, s60_49, s60_52, s60_53, s60_54, s60_57, s60_60, s60_61, s60_64, s60_65, s60_66, s60_67, s60_70, s60_71, s60_72, s60_75, s60_76, s60_77, s60_80, s60_82, s60_85, s60_86, s60_87, eq_self, ixk_some, bd_some, nl_n, nl_i, nl_r, Option.toList_some, Option.toList_none, List.cons_append, List.nil_append]
      simp [w0, w1, w2, w3, w4]
