/-! the class: passed, noted, counts, messages read -/
theorem min40 (n : Nat) (hn : n < 2 ^ 30) : (if (40 : Int32) < nI n then 40 else nI n) = nI (min n 40) := by
  have e40 : (40 : Int32) = nI 40 := rfl
  by_cases hlt : n ≤ 40
  · rw [e40, if_neg (nI_nlt hlt (by decide)), Nat.min_eq_left hlt]
  · rw [e40, if_pos (nI_lt (by omega) (by omega)), Nat.min_eq_right (by omega)]
theorem go_passed {s : ST} {m : MM} {k i : Int32} (h : RCa s m) : go 61 0 [some (vr 7 (some 0)), some (vi k), some (vi i), none] [] m = some (some (vi (o_passed s k i)), m) := by
  have hp := go_askAt (k := k) h
  unfold o_passed
  rcases isA_cases s k with h0 | ⟨h0, h1, h2⟩
  · simp only [h0, Bool.false_eq_true, if_false] at hp ⊢
    simp only [s61_0, s61_1, s61_2, s61_5i, s61_5r, s61_5n, s61_6, s61_7n, s61_7s, s61_10, s61_11, s61_12, s61_13, s61_16, s61_17, s61_18, s61_21, s61_23, s61_26, s61_29, s61_30, s61_33, s61_34, s61_35, s61_38, s61_40, eq_self, ixk_some, bd_some, nl_n, nl_i, nl_r, Option.toList_some, Option.toList_none, List.cons_append, List.nil_append, hp]
    simp
  · simp only [h0, if_true] at hp ⊢
    obtain ⟨g0, g1, g2, g3, g4, g5, g6, g7, g8, g9, g10, g11, g12, g13, g14, g15, g16⟩ := h.2.2.2.2.2.1 _ h1
    obtain ⟨o1, o2, o3, o4, o5, o6, o7⟩ := h.2.2.2.2.2.2 _ h1
    simp only [s61_0, s61_1, s61_2, s61_5i, s61_5r, s61_5n, s61_6, s61_7n, s61_7s, s61_10, s61_11, s61_12, s61_13, s61_16, s61_17, s61_18, s61_21, s61_23, s61_26, s61_29, s61_30, s61_33, s61_34, s61_35, s61_38, s61_40, eq_self, ixk_some, bd_some, nl_n, nl_i, nl_r, Option.toList_some, Option.toList_none, List.cons_append, List.nil_append, hp, g9, g11, min40 _ o2]
    generalize k.toInt.toNat = K at *
    generalize c_ak s K = a at *
    rcases x_ix (n := min (a_ps a) 40) i (by omega) with ⟨a1, a2⟩ | ⟨a1, a2, a3⟩ | ⟨j, hj, rfl, a3⟩
    · rw [if_pos a1]
      have : ¬ (0 ≤ i.toInt ∧ i.toInt < 40 ∧ i.toInt < a_ps a) := by omega
      simp [this]
    · rw [if_neg a1, if_pos a2]
      have : ¬ (0 ≤ i.toInt ∧ i.toInt < 40 ∧ i.toInt < a_ps a) := by omega
      simp [this]
    · have hix := ix_nI (i := j) (n := mN m 9 K) (by rw [g13]; omega) (by rw [g13]; decide)
      rw [if_neg (nI_pos (by omega)), if_neg (nI_ge hj (by omega)), hix, ixk_some]
      have hc : (0 ≤ (nI j).toInt ∧ (nI j).toInt < 40 ∧ (nI j).toInt < a_ps a) := by rw [a3]; omega
      have hw : (a_wy a)[j]? = some ((a_wy a).getD j 0) := by
        rw [List.getD_eq_getElem?_getD, List.getElem?_eq_getElem (by omega)]; rfl
      rw [g15 j _ hw]
      simp only [not_true_eq_false, if_false]
      rw [if_pos hc, a3]
      rfl
theorem go_noted {s : ST} {m : MM} {k i : Int32} (h : RCa s m) : go 62 0 [some (vr 7 (some 0)), some (vi k), some (vi i), none] [] m = some (some (vi (o_noted s k i)), m) := by
  have hp := go_askAt (k := k) h
  unfold o_noted
  rcases isA_cases s k with h0 | ⟨h0, h1, h2⟩
  · simp only [h0, Bool.false_eq_true, if_false] at hp ⊢
    simp only [s62_0, s62_1, s62_2, s62_5i, s62_5r, s62_5n, s62_6, s62_7n, s62_7s, s62_10, s62_11, s62_14, s62_15, s62_18, s62_19, s62_20, s62_21, s62_24, s62_25, s62_26, s62_29, s62_30, s62_33, s62_34, s62_37, s62_40, s62_41, s62_44, s62_45, s62_46, s62_49, s62_51, eq_self, ixk_some, bd_some, nl_n, nl_i, nl_r, Option.toList_some, Option.toList_none, List.cons_append, List.nil_append, hp]
    simp
  · simp only [h0, if_true] at hp ⊢
    obtain ⟨g0, g1, g2, g3, g4, g5, g6, g7, g8, g9, g10, g11, g12, g13, g14, g15, g16⟩ := h.2.2.2.2.2.1 _ h1
    obtain ⟨o1, o2, o3, o4, o5, o6, o7⟩ := h.2.2.2.2.2.2 _ h1
    simp only [s62_0, s62_1, s62_2, s62_5i, s62_5r, s62_5n, s62_6, s62_7n, s62_7s, s62_10, s62_11, s62_14, s62_15, s62_18, s62_19, s62_20, s62_21, s62_24, s62_25, s62_26, s62_29, s62_30, s62_33, s62_34, s62_37, s62_40, s62_41, s62_44, s62_45, s62_46, s62_49, s62_51, eq_self, ixk_some, bd_some, nl_n, nl_i, nl_r, Option.toList_some, Option.toList_none, List.cons_append, List.nil_append, hp, g1, g10, g12]
    generalize k.toInt.toNat = K at *
    generalize c_ak s K = a at *
    by_cases hs : a_so a = 1
    · rw [if_pos (by rw [hs]; rfl)]
      rw [if_pos hs] at g14
      rw [g14, show nI 40 = (40 : Int32) from rfl, min40 _ o3]
      rcases x_ix (n := min (a_nt a) 40) i (by omega) with ⟨a1, a2⟩ | ⟨a1, a2, a3⟩ | ⟨j, hj, rfl, a3⟩
      · rw [if_pos a1]
        have : ¬ (0 ≤ i.toInt ∧ i.toInt < 40 ∧ i.toInt < a_nt a) := by omega
        simp [this, hs]
      · rw [if_neg a1, if_pos a2]
        have : ¬ (0 ≤ i.toInt ∧ i.toInt < 40 ∧ i.toInt < a_nt a) := by omega
        simp [this, hs]
      · have hix := ix_nI (i := j) (n := 40) (by omega) (by decide)
        rw [if_neg (nI_pos (by omega)), if_neg (nI_ge hj (by omega)), hix, ixk_some]
        have hc : (0 ≤ (nI j).toInt ∧ (nI j).toInt < 40 ∧ (nI j).toInt < a_nt a) := by rw [a3]; omega
        have hw : (a_no a)[j]? = some ((a_no a).getD j 0) := by
          rw [List.getD_eq_getElem?_getD, List.getElem?_eq_getElem (by omega)]; rfl
        rw [g16 hs j _ hw]
        simp only [hs, not_true_eq_false, ne_eq, or_self, if_false]
        rw [if_pos hc, a3]
        rfl
    · rw [if_neg (by rw [nI_k1, nI_eq (by omega) (by omega)]; exact hs)]
      simp [hs]
def enP (s : ST) (b : Bool) (k : Nat) : Bool := a_lt (c_ak s k) || (a_dn (c_ak s k) && !b)
theorem ended_loop {s : ST} {m : MM} {b : Bool} (h : RCa s m) : ∀ d k acc, k + d = c_na s → go 93 4 [some (vr 7 (some 0)), some (vi (b2 b)), some (vi (nI acc)), some (vi (nI k))] [] m = some (some (vi (nI (acc + cntF (enP s b) d k))), m) := by
  obtain ⟨h1, h2, h3, h4, h5, h6, h7⟩ := h
  intro d
  induction d with
  | zero =>
    intro k acc hk
    rw [s93_4]
    simp only [s93_0, s93_1i, s93_1r, s93_1n, s93_2, s93_3i, s93_3r, s93_3n, s93_5, s93_6, s93_9, s93_12, s93_13, s93_14, s93_17, s93_18, s93_19, s93_22, s93_25, s93_26, s93_29, s93_30, s93_31, s93_34, s93_37, s93_38, s93_41, s93_42, s93_45, s93_46, s93_47i, s93_47r, s93_47n, s93_48i, s93_48r, s93_48n, s93_51, s93_54, s93_55, eq_self, ixk_some, bd_some, nl_n, nl_i, nl_r, Option.toList_some, Option.toList_none, List.cons_append, List.nil_append, h2]
    rw [if_pos (nI_le (by omega) (by omega))]
    rfl
  | succ d ih =>
    intro k acc hk
    have hkn : k < c_na s := by omega
    have hix := ix_nI (i := k) (n := mN m 17 0) (by rw [h4]; omega) (by rw [h4]; decide)
    obtain ⟨g0, g1, g2, g3, g4, g5, g6, g7, -⟩ := h6 k hkn
    rw [s93_4]
    simp only [s93_0, s93_1i, s93_1r, s93_1n, s93_2, s93_3i, s93_3r, s93_3n, s93_5, s93_6, s93_9, s93_12, s93_13, s93_14, s93_17, s93_18, s93_19, s93_22, s93_25, s93_26, s93_29, s93_30, s93_31, s93_34, s93_37, s93_38, s93_41, s93_42, s93_45, s93_46, s93_47i, s93_47r, s93_47n, s93_48i, s93_48r, s93_48n, s93_51, s93_54, s93_55, eq_self, ixk_some, bd_some, nl_n, nl_i, nl_r, Option.toList_some, Option.toList_none, List.cons_append, List.nil_append, h2, h3, hix, h5 k hkn, g6, g7]
    rw [if_neg (nI_ge (by omega) (by omega)), nI_1, nI_1, nI_k0, nI_add, ih (k + 1) _ (by omega), ih (k + 1) _ (by omega)]
    simp only [cntF, enP]
    by_cases q1 : a_lt (c_ak s k) = true
    · simp [q1, b2, nI_0, Nat.add_assoc]
    · by_cases q2 : a_dn (c_ak s k) = true
      · by_cases q3 : b = true
        · subst q3; simp [q1, q2, b2, nI_0]
        · have q3 : b = false := by simpa using q3
          subst q3; simp [q1, q2, b2, nI_0, Nat.add_assoc]
      · simp [q1, q2, b2, nI_0]
theorem go_howManyEnded {s : ST} {m : MM} {b : Bool} (h : RCa s m) : go 93 0 [some (vr 7 (some 0)), some (vi (b2 b)), none, none] [] m = some (some (vi (nI (cntF (enP s b) (c_na s) 0))), m) := by
  simp only [s93_0, s93_1i, s93_1r, s93_1n, s93_2, s93_3i, s93_3r, s93_3n, eq_self, ixk_some, bd_some, nl_n, nl_i, nl_r, Option.toList_some, Option.toList_none, List.cons_append, List.nil_append]
  have := ended_loop (b := b) h (c_na s) 0 0 (by omega)
  rw [Nat.zero_add] at this
  exact this
theorem cntF_eq {P Q : Nat → Bool} {n : Nat} : ∀ d i, i + d ≤ n → (∀ k, k < n → P k = Q k) → cntF P d i = cntF Q d i
  | 0, _, _, _ => rfl
  | d + 1, i, hi, h => by simp only [cntF]; rw [h i (by omega), cntF_eq d (i + 1) (by omega) h]
theorem go_isOn {s : ST} {m : MM} (h : RCc s m) : go 6 0 [some (vr 2 (some 0))] [] m = some (some (vi (b2 (decide (0 < c_ck s)))), m) := by
  simp only [s6_0, s6_1, s6_4, s6_7, s6_8, s6_11, s6_12b0, s6_12b1, eq_self, ixk_some, bd_some, nl_n, nl_i, nl_r, Option.toList_some, Option.toList_none, List.cons_append, List.nil_append, h.2.1]
  have := h.2.2.1
  by_cases h0 : c_ck s = 0
  · rw [h0]; rfl
  · rw [if_neg (nI_ne0 (by omega) (by omega))]
    simp [b2, show 0 < c_ck s by omega]
theorem go_count {s : ST} {m : MM} {w : Int32} (h : RCp s m) (ha : RCa s m) (hc : RCc s m) (hk : RCk s m) (hm : RCm s m) : go 92 0 [some (vr 7 (some 0)), some (vi w)] [] m = some (some (vi (o_count s w)), m) := by
  have e0 := go_howManyEnded (b := false) ha
  have e1 := go_howManyEnded (b := true) ha
  have hi := go_howManyIn h
  simp only [b2_f, b2_t] at e0 e1
  have q0 : cntF (enP s false) (c_na s) 0 = cntF (fun k => a_dn (c_ak s k)) (c_na s) 0 := cntF_eq (n := c_na s) _ _ (by omega) (fun k hk => by
    have := (ha.2.2.2.2.2.2 k hk).2.2.2.2.2.1
    unfold enP
    cases hl : a_lt (c_ak s k) <;> simp
    exact (this hl).symm ▸ rfl)
  have q1 : cntF (enP s true) (c_na s) 0 = cntF (fun k => a_lt (c_ak s k)) (c_na s) 0 := cntF_eq (n := c_na s) _ _ (by omega) (fun k hk => by simp [enP])
  rw [q0] at e0
  rw [q1] at e1
  rw [s92_0]
  unfold o_count
  by_cases w0 : w = 0
  · subst w0; simp only [s92_1_0, s92_1_1, s92_1_2, s92_1_3, s92_1_4, s92_1_5, s92_1_6, s92_1_7, s92_1_8, s92_1_d, s92_52, s92_53, s92_56, s92_57, s92_58, s92_61, s92_62, s92_63, s92_66, s92_69, s92_70, s92_71, s92_74, s92_75, s92_76, s92_77, s92_80, s92_81, s92_82, s92_85, s92_88, s92_89, s92_90, s92_93, s92_96, s92_97, s92_98, s92_101, s92_102, s92_103, s92_104, s92_107, s92_108, s92_109, eq_self, ixk_some, bd_some, nl_n, nl_i, nl_r, Option.toList_some, Option.toList_none, List.cons_append, List.nil_append, h.2.1]; simp
  by_cases w1 : w = 1
  · subst w1; simp only [s92_1_0, s92_1_1, s92_1_2, s92_1_3, s92_1_4, s92_1_5, s92_1_6, s92_1_7, s92_1_8, s92_1_d, s92_52, s92_53, s92_56, s92_57, s92_58, s92_61, s92_62, s92_63, s92_66, s92_69, s92_70, s92_71, s92_74, s92_75, s92_76, s92_77, s92_80, s92_81, s92_82, s92_85, s92_88, s92_89, s92_90, s92_93, s92_96, s92_97, s92_98, s92_101, s92_102, s92_103, s92_104, s92_107, s92_108, s92_109, eq_self, ixk_some, bd_some, nl_n, nl_i, nl_r, Option.toList_some, Option.toList_none, List.cons_append, List.nil_append, hi]; simp
  by_cases w2 : w = 2
  · subst w2; simp only [s92_1_0, s92_1_1, s92_1_2, s92_1_3, s92_1_4, s92_1_5, s92_1_6, s92_1_7, s92_1_8, s92_1_d, s92_52, s92_53, s92_56, s92_57, s92_58, s92_61, s92_62, s92_63, s92_66, s92_69, s92_70, s92_71, s92_74, s92_75, s92_76, s92_77, s92_80, s92_81, s92_82, s92_85, s92_88, s92_89, s92_90, s92_93, s92_96, s92_97, s92_98, s92_101, s92_102, s92_103, s92_104, s92_107, s92_108, s92_109, eq_self, ixk_some, bd_some, nl_n, nl_i, nl_r, Option.toList_some, Option.toList_none, List.cons_append, List.nil_append, hm.1, hm.2.2.2.1]; simp
  by_cases w3 : w = 3
  · subst w3; simp only [s92_1_0, s92_1_1, s92_1_2, s92_1_3, s92_1_4, s92_1_5, s92_1_6, s92_1_7, s92_1_8, s92_1_d, s92_52, s92_53, s92_56, s92_57, s92_58, s92_61, s92_62, s92_63, s92_66, s92_69, s92_70, s92_71, s92_74, s92_75, s92_76, s92_77, s92_80, s92_81, s92_82, s92_85, s92_88, s92_89, s92_90, s92_93, s92_96, s92_97, s92_98, s92_101, s92_102, s92_103, s92_104, s92_107, s92_108, s92_109, eq_self, ixk_some, bd_some, nl_n, nl_i, nl_r, Option.toList_some, Option.toList_none, List.cons_append, List.nil_append, ha.2.1]; simp
  by_cases w4 : w = 4
  · subst w4; simp only [s92_1_0, s92_1_1, s92_1_2, s92_1_3, s92_1_4, s92_1_5, s92_1_6, s92_1_7, s92_1_8, s92_1_d, s92_52, s92_53, s92_56, s92_57, s92_58, s92_61, s92_62, s92_63, s92_66, s92_69, s92_70, s92_71, s92_74, s92_75, s92_76, s92_77, s92_80, s92_81, s92_82, s92_85, s92_88, s92_89, s92_90, s92_93, s92_96, s92_97, s92_98, s92_101, s92_102, s92_103, s92_104, s92_107, s92_108, s92_109, eq_self, ixk_some, bd_some, nl_n, nl_i, nl_r, Option.toList_some, Option.toList_none, List.cons_append, List.nil_append, e0]; simp
  by_cases w5 : w = 5
  · subst w5; simp only [s92_1_0, s92_1_1, s92_1_2, s92_1_3, s92_1_4, s92_1_5, s92_1_6, s92_1_7, s92_1_8, s92_1_d, s92_52, s92_53, s92_56, s92_57, s92_58, s92_61, s92_62, s92_63, s92_66, s92_69, s92_70, s92_71, s92_74, s92_75, s92_76, s92_77, s92_80, s92_81, s92_82, s92_85, s92_88, s92_89, s92_90, s92_93, s92_96, s92_97, s92_98, s92_101, s92_102, s92_103, s92_104, s92_107, s92_108, s92_109, eq_self, ixk_some, bd_some, nl_n, nl_i, nl_r, Option.toList_some, Option.toList_none, List.cons_append, List.nil_append, hc.1, hc.2.1]; simp
  by_cases w6 : w = 6
  · subst w6; simp only [s92_1_0, s92_1_1, s92_1_2, s92_1_3, s92_1_4, s92_1_5, s92_1_6, s92_1_7, s92_1_8, s92_1_d, s92_52, s92_53, s92_56, s92_57, s92_58, s92_61, s92_62, s92_63, s92_66, s92_69, s92_70, s92_71, s92_74, s92_75, s92_76, s92_77, s92_80, s92_81, s92_82, s92_85, s92_88, s92_89, s92_90, s92_93, s92_96, s92_97, s92_98, s92_101, s92_102, s92_103, s92_104, s92_107, s92_108, s92_109, eq_self, ixk_some, bd_some, nl_n, nl_i, nl_r, Option.toList_some, Option.toList_none, List.cons_append, List.nil_append, hm.1, hm.2.2.2.2.2.1]; simp
  by_cases w7 : w = 7
  · subst w7; simp only [s92_1_0, s92_1_1, s92_1_2, s92_1_3, s92_1_4, s92_1_5, s92_1_6, s92_1_7, s92_1_8, s92_1_d, s92_52, s92_53, s92_56, s92_57, s92_58, s92_61, s92_62, s92_63, s92_66, s92_69, s92_70, s92_71, s92_74, s92_75, s92_76, s92_77, s92_80, s92_81, s92_82, s92_85, s92_88, s92_89, s92_90, s92_93, s92_96, s92_97, s92_98, s92_101, s92_102, s92_103, s92_104, s92_107, s92_108, s92_109, eq_self, ixk_some, bd_some, nl_n, nl_i, nl_r, Option.toList_some, Option.toList_none, List.cons_append, List.nil_append, hk.1]; simp
  by_cases w8 : w = 8
  · subst w8; simp only [s92_1_0, s92_1_1, s92_1_2, s92_1_3, s92_1_4, s92_1_5, s92_1_6, s92_1_7, s92_1_8, s92_1_d, s92_52, s92_53, s92_56, s92_57, s92_58, s92_61, s92_62, s92_63, s92_66, s92_69, s92_70, s92_71, s92_74, s92_75, s92_76, s92_77, s92_80, s92_81, s92_82, s92_85, s92_88, s92_89, s92_90, s92_93, s92_96, s92_97, s92_98, s92_101, s92_102, s92_103, s92_104, s92_107, s92_108, s92_109, eq_self, ixk_some, bd_some, nl_n, nl_i, nl_r, Option.toList_some, Option.toList_none, List.cons_append, List.nil_append, e1]; simp
  · have ho := tsw_out (w := w) (n := 8) (fun j hj => by
      match j, hj with
      | 0, _ => exact w0
      | 1, _ => exact w1
      | 2, _ => exact w2
      | 3, _ => exact w3
      | 4, _ => exact w4
      | 5, _ => exact w5
      | 6, _ => exact w6
      | 7, _ => exact w7
      | 8, _ => exact w8) (by decide)
    rw [s92_1_d ho]
    simp only [s92_52, s92_53, s92_56, s92_57, s92_58, s92_61, s92_62, s92_63, s92_66, s92_69, s92_70, s92_71, s92_74, s92_75, s92_76, s92_77, s92_80, s92_81, s92_82, s92_85, s92_88, s92_89, s92_90, s92_93, s92_96, s92_97, s92_98, s92_101, s92_102, s92_103, s92_104, s92_107, s92_108, s92_109, eq_self, ixk_some, bd_some, nl_n, nl_i, nl_r, Option.toList_some, Option.toList_none, List.cons_append, List.nil_append]
    simp [w0, w1, w2, w3, w4, w5, w6, w7, w8]
