/-! the class: Pairs as lists -/
def RCl (m : MM) (p : Nat) (L : PRS) : Prop := Pok m p L.length ∧ ∀ i q, L[i]? = some q → mI m 12 p i = q.1 ∧ mL m 13 p i = q.2
def RCq (s : ST) (m : MM) : Prop := RCl m 0 (c_bg s) ∧ ∀ i, i < c_n s → RCl m (i + 1) (c_pr s i)
def bl (key : Int32) : PRS → Nat
  | [] => 0
  | q :: r => if q.1 < key then 1 + bl key r else 0
theorem bl_le (key : Int32) : ∀ L : PRS, bl key L ≤ L.length
  | [] => Nat.le_refl _
  | q :: r => by
    simp only [bl, List.length_cons]
    have := bl_le key r
    split <;> omega
theorem bel_bl {m : MM} {p : Nat} {L : PRS} {key : Int32} (h : RCl m p L) : ∀ (r : PRS) (i : Nat), L.drop i = r → sc (belP m p key) r.length i = i + bl key r
  | [], i, hi => rfl
  | q :: r, i, hi => by
    have hgi : L[i]? = some q := by
      have h9 : (L.drop i)[0]? = some q := by rw [hi]; rfl
      simpa using h9
    have hr : L.drop (i + 1) = r := by rw [← List.drop_drop, hi]; rfl
    have g := (h.2 i q hgi).1
    simp only [List.length_cons, sc, belP, g, bl]
    by_cases hk : q.1 < key
    · simp only [hk, decide_true, if_true]
      rw [bel_bl h r (i + 1) hr]
      omega
    · simp [hk]
theorem go_bl {m : MM} {p : Nat} {L : PRS} {key : Int32} (h : RCl m p L) : go 16 0 [some (vr 5 (some p)), some (vi key), none] [] m = some (some (vi (nI (bl key L))), m) := by
  have := go_below (key := key) h.1
  rw [bel_bl h L 0 rfl, Nat.zero_add] at this
  exact this
theorem go_keyAt {m : MM} {p : Nat} {L : PRS} {i : Int32} (h : RCl m p L) : go 18 0 [some (vr 5 (some p)), some (vi i)] [] m = some (some (vi (if 0 ≤ i.toInt ∧ i.toInt < L.length then (L.getD i.toInt.toNat (0, 0)).1 else 0)), m) := by
  obtain ⟨⟨h1, h2, h3, h4, h5, h6⟩, h7⟩ := h
  simp only [s18_0, s18_1, s18_4, s18_5, s18_6, s18_9, s18_12, s18_13, s18_16, s18_17, s18_18, s18_21, s18_22, eq_self, ixk_some, bd_some, nl_n, nl_i, nl_r, Option.toList_some, Option.toList_none, List.cons_append, List.nil_append, h1, h3]
  rcases x_ix (n := L.length) i (by omega) with ⟨a1, a2⟩ | ⟨a1, a2, a3⟩ | ⟨j, hj, rfl, a3⟩
  · rw [if_pos a1, if_neg a2]
  · rw [if_neg a1, if_pos a2, if_neg a3]
  · have hix := ix_nI (i := j) (n := mN m 12 p) (by rw [h5]; omega) (by rw [h5]; decide)
    have hg : L[j]? = some L[j] := List.getElem?_eq_getElem hj
    rw [if_neg (nI_pos (by omega)), if_neg (nI_ge hj (by omega)), hix, ixk_some, (h7 j _ hg).1, if_pos (by rw [a3]; omega), show (nI j).toInt.toNat = j by rw [a3]; rfl, List.getD_eq_getElem?_getD, hg]
    rfl
theorem go_valueAt {m : MM} {p : Nat} {L : PRS} {i : Int32} (h : RCl m p L) : go 19 0 [some (vr 5 (some p)), some (vi i)] [] m = some (some (vl (if 0 ≤ i.toInt ∧ i.toInt < L.length then (L.getD i.toInt.toNat (0, 0)).2 else 0)), m) := by
  obtain ⟨⟨h1, h2, h3, h4, h5, h6⟩, h7⟩ := h
  simp only [s19_0, s19_1, s19_4, s19_5, s19_6, s19_9, s19_12, s19_13, s19_16, s19_17, s19_18, s19_21, s19_22, eq_self, ixk_some, bd_some, nl_n, nl_i, nl_r, Option.toList_some, Option.toList_none, List.cons_append, List.nil_append, h2, h3]
  rcases x_ix (n := L.length) i (by omega) with ⟨a1, a2⟩ | ⟨a1, a2, a3⟩ | ⟨j, hj, rfl, a3⟩
  · rw [if_pos a1, if_neg a2]
  · rw [if_neg a1, if_pos a2, if_neg a3]
  · have hix := ix_nI (i := j) (n := mN m 13 p) (by rw [h6]; omega) (by rw [h6]; decide)
    have hg : L[j]? = some L[j] := List.getElem?_eq_getElem hj
    rw [if_neg (nI_pos (by omega)), if_neg (nI_ge hj (by omega)), hix, ixk_some, (h7 j _ hg).2, if_pos (by rw [a3]; omega), show (nI j).toInt.toNat = j by rw [a3]; rfl, List.getD_eq_getElem?_getD, hg]
    rfl
theorem go_key {s : ST} {m : MM} {p i : Int32} (h : RCp s m) (hq : RCq s m) : go 85 0 [some (vr 7 (some 0)), some (vi p), some (vi i), none] [] m = some (some (vi (o_key s p i)), m) := by
  have hp := go_peerAt (p := p) h
  unfold o_key
  rcases isP_cases s p with h0 | ⟨h0, h1, h2⟩
  · simp only [h0, Bool.false_eq_true, if_false, false_and] at hp ⊢
    simp only [s85_0, s85_1, s85_2, s85_5i, s85_5r, s85_5n, s85_6, s85_7n, s85_7s, s85_10, s85_11, s85_14, s85_15, s85_18, s85_21, s85_22, eq_self, ixk_some, bd_some, nl_n, nl_i, nl_r, Option.toList_some, Option.toList_none, List.cons_append, List.nil_append, hp]
  · have g := (h.2.2.2.2.2.2 _ h1).2.2.2.2.2.2.2.2.2.1
    have hk := go_keyAt (i := i) (hq.2 _ h1)
    simp only [h0, if_true, true_and] at hp ⊢
    simp only [s85_0, s85_1, s85_2, s85_5i, s85_5r, s85_5n, s85_6, s85_7n, s85_7s, s85_10, s85_11, s85_14, s85_15, s85_18, s85_21, s85_22, eq_self, ixk_some, bd_some, nl_n, nl_i, nl_r, Option.toList_some, Option.toList_none, List.cons_append, List.nil_append, hp, g, hk]
theorem go_kept {s : ST} {m : MM} {p i : Int32} (h : RCp s m) (hq : RCq s m) : go 86 0 [some (vr 7 (some 0)), some (vi p), some (vi i), none] [] m = some (some (vl (o_kept s p i)), m) := by
  have hp := go_peerAt (p := p) h
  unfold o_kept
  rcases isP_cases s p with h0 | ⟨h0, h1, h2⟩
  · simp only [h0, Bool.false_eq_true, if_false, false_and] at hp ⊢
    simp only [s86_0, s86_1, s86_2, s86_5i, s86_5r, s86_5n, s86_6, s86_7n, s86_7s, s86_10, s86_11, s86_14, s86_15, s86_18, s86_21, s86_22, eq_self, ixk_some, bd_some, nl_n, nl_i, nl_r, Option.toList_some, Option.toList_none, List.cons_append, List.nil_append, hp]
  · have g := (h.2.2.2.2.2.2 _ h1).2.2.2.2.2.2.2.2.2.1
    have hk := go_valueAt (i := i) (hq.2 _ h1)
    simp only [h0, if_true, true_and] at hp ⊢
    simp only [s86_0, s86_1, s86_2, s86_5i, s86_5r, s86_5n, s86_6, s86_7n, s86_7s, s86_10, s86_11, s86_14, s86_15, s86_18, s86_21, s86_22, eq_self, ixk_some, bd_some, nl_n, nl_i, nl_r, Option.toList_some, Option.toList_none, List.cons_append, List.nil_append, hp, g, hk]
theorem go_told {s : ST} {m : MM} {p w : Int32} (h : RCp s m) (hq : RCq s m) : go 82 0 [some (vr 7 (some 0)), some (vi p), some (vi w), none] [] m = some (some (vi (o_told s p w)), m) := by
  have hp := go_peerAt (p := p) h
  unfold o_told
  rcases isP_cases s p with h0 | ⟨h0, h1, h2⟩
  · simp only [h0, Bool.false_eq_true, if_false] at hp ⊢
    simp only [s82_0, s82_1, s82_2, s82_5i, s82_5r, s82_5n, s82_6, s82_7n, s82_7s, s82_10, s82_11, s82_12, s82_13_0, s82_13_1, s82_13_2, s82_13_3, s82_13_4, s82_13_d, s82_48, s82_49, s82_52, s82_53, s82_54, s82_57, s82_58, s82_59, s82_62, s82_63, s82_64, s82_67, s82_68, s82_69, s82_72, s82_75, s82_76, s82_77, eq_self, ixk_some, bd_some, nl_n, nl_i, nl_r, Option.toList_some, Option.toList_none, List.cons_append, List.nil_append, hp]
    simp
  · obtain ⟨g0, g1, g2, g3, g4, g5, g6, g7, g8, g9, -⟩ := h.2.2.2.2.2.2 _ h1
    have hh := go_placesHeld h h1
    have hsz := (hq.2 _ h1).1.2.2.1
    simp only [h0, if_true] at hp ⊢
    simp only [s82_0, s82_1, s82_2, s82_5i, s82_5r, s82_5n, s82_6, s82_7n, s82_7s, s82_10, s82_11, s82_12, s82_48, s82_49, s82_52, s82_53, s82_54, s82_57, s82_58, s82_59, s82_62, s82_63, s82_64, s82_67, s82_68, s82_69, s82_72, s82_75, s82_76, s82_77, eq_self, ixk_some, bd_some, nl_n, nl_i, nl_r, Option.toList_some, Option.toList_none, List.cons_append, List.nil_append, hp]
    generalize p.toInt.toNat = P at *
    by_cases w0 : w = 0
    · subst w0; simp only [s82_0, s82_1, s82_2, s82_5i, s82_5r, s82_5n, s82_6, s82_7n, s82_7s, s82_10, s82_11, s82_12, s82_13_0, s82_13_1, s82_13_2, s82_13_3, s82_13_4, s82_13_d, s82_48, s82_49, s82_52, s82_53, s82_54, s82_57, s82_58, s82_59, s82_62, s82_63, s82_64, s82_67, s82_68, s82_69, s82_72, s82_75, s82_76, s82_77, eq_self, ixk_some, bd_some, nl_n, nl_i, nl_r, Option.toList_some, Option.toList_none, List.cons_append, List.nil_append, g3]; simp
    by_cases w1 : w = 1
    · subst w1; simp only [s82_0, s82_1, s82_2, s82_5i, s82_5r, s82_5n, s82_6, s82_7n, s82_7s, s82_10, s82_11, s82_12, s82_13_0, s82_13_1, s82_13_2, s82_13_3, s82_13_4, s82_13_d, s82_48, s82_49, s82_52, s82_53, s82_54, s82_57, s82_58, s82_59, s82_62, s82_63, s82_64, s82_67, s82_68, s82_69, s82_72, s82_75, s82_76, s82_77, eq_self, ixk_some, bd_some, nl_n, nl_i, nl_r, Option.toList_some, Option.toList_none, List.cons_append, List.nil_append, g2]; simp
    by_cases w2 : w = 2
    · subst w2; simp only [s82_0, s82_1, s82_2, s82_5i, s82_5r, s82_5n, s82_6, s82_7n, s82_7s, s82_10, s82_11, s82_12, s82_13_0, s82_13_1, s82_13_2, s82_13_3, s82_13_4, s82_13_d, s82_48, s82_49, s82_52, s82_53, s82_54, s82_57, s82_58, s82_59, s82_62, s82_63, s82_64, s82_67, s82_68, s82_69, s82_72, s82_75, s82_76, s82_77, eq_self, ixk_some, bd_some, nl_n, nl_i, nl_r, Option.toList_some, Option.toList_none, List.cons_append, List.nil_append, hh]; simp
    by_cases w3 : w = 3
    · subst w3; simp only [s82_0, s82_1, s82_2, s82_5i, s82_5r, s82_5n, s82_6, s82_7n, s82_7s, s82_10, s82_11, s82_12, s82_13_0, s82_13_1, s82_13_2, s82_13_3, s82_13_4, s82_13_d, s82_48, s82_49, s82_52, s82_53, s82_54, s82_57, s82_58, s82_59, s82_62, s82_63, s82_64, s82_67, s82_68, s82_69, s82_72, s82_75, s82_76, s82_77, eq_self, ixk_some, bd_some, nl_n, nl_i, nl_r, Option.toList_some, Option.toList_none, List.cons_append, List.nil_append, g4]; simp
    by_cases w4 : w = 4
    · subst w4; simp only [s82_0, s82_1, s82_2, s82_5i, s82_5r, s82_5n, s82_6, s82_7n, s82_7s, s82_10, s82_11, s82_12, s82_13_0, s82_13_1, s82_13_2, s82_13_3, s82_13_4, s82_13_d, s82_48, s82_49, s82_52, s82_53, s82_54, s82_57, s82_58, s82_59, s82_62, s82_63, s82_64, s82_67, s82_68, s82_69, s82_72, s82_75, s82_76, s82_77, eq_self, ixk_some, bd_some, nl_n, nl_i, nl_r, Option.toList_some, Option.toList_none, List.cons_append, List.nil_append, g9, hsz]; simp
    · have ho := tsw_out (w := w) (n := 4) (fun j hj => by
        match j, hj with
        | 0, _ => exact w0
        | 1, _ => exact w1
        | 2, _ => exact w2
        | 3, _ => exact w3
        | 4, _ => exact w4) (by decide)
      rw [s82_13_d ho]
      simp only [s82_0, s82_1, s82_2, s82_5i, s82_5r, s82_5n, s82_6, s82_7n, s82_7s, s82_10, s82_11, s82_12, s82_48, s82_49, s82_52, s82_53, s82_54, s82_57, s82_58, s82_59, s82_62, s82_63, s82_64, s82_67, s82_68, s82_69, s82_72, s82_75, s82_76, s82_77, eq_self, ixk_some, bd_some, nl_n, nl_i, nl_r, Option.toList_some, Option.toList_none, List.cons_append, List.nil_append]
      simp [w0, w1, w2, w3, w4]
