/-! the class: messages read, told, keys, values -/
theorem go_at {s : ST} {m : MM} {i : Int32} (h : RCm s m) : (∃ j g n, i = nI j ∧ j < (c_ms s).length ∧ i.toInt = (j : Int) ∧ (c_ms s)[j]? = some g ∧ mR m 11 0 j = some n ∧ RC3 g m n ∧ go 9 0 [some (vr 3 (some 0)), some (vi i)] [] m = some (some (vr 4 (some n)), m)) ∨
    (¬ (0 ≤ i.toInt ∧ i.toInt < (c_ms s).length) ∧ go 9 0 [some (vr 3 (some 0)), some (vi i)] [] m = some (some (vr 0 none), m)) := by
  obtain ⟨h1, h2, h3, h4, h5, h6, h7⟩ := h
  simp only [s9_0, s9_1, s9_4, s9_5, s9_6, s9_9, s9_12, s9_13, s9_16, s9_17, s9_18, s9_21, s9_22, eq_self, ixk_some, bd_some, nl_n, nl_i, nl_r, Option.toList_some, Option.toList_none, List.cons_append, List.nil_append, h2, h4]
  rcases x_ix (n := (c_ms s).length) i (by omega) with ⟨a1, a2⟩ | ⟨a1, a2, a3⟩ | ⟨j, hj, rfl, a3⟩
  · right; rw [if_pos a1]; exact ⟨a2, rfl⟩
  · right; rw [if_neg a1, if_pos a2]; exact ⟨a3, rfl⟩
  · left
    have hix := ix_nI (i := j) (n := mN m 11 0) (by rw [h3]; omega) (by rw [h3]; decide)
    have hg : (c_ms s)[j]? = some (c_ms s)[j] := List.getElem?_eq_getElem hj
    obtain ⟨n, n1, n2⟩ := h7 j _ hg
    refine ⟨j, _, n, rfl, hj, a3, hg, n1, n2, ?_⟩
    rw [if_neg (nI_pos (by omega)), if_neg (nI_ge hj (by omega)), hix, ixk_some, n1]
theorem go_message {s : ST} {m : MM} {i w : Int32} (h : RCm s m) (hp : RCp s m) (ha : RCa s m) (hg : ∀ g ∈ c_ms s, GOK s g) : go 66 0 [some (vr 7 (some 0)), some (vi i), some (vi w), none] [] m = some (some (vi (o_message s i w)), m) := by
  unfold o_message
  rcases go_at (i := i) h with ⟨j, g, n, rfl, hj, hti, hgj, n1, ⟨m0, m1, m2, m3, m4, m5, m6⟩, n3⟩ | ⟨h0, n3⟩
  · have ok := hg g (List.mem_of_getElem? hgj)
    rw [if_pos (by rw [hti]; omega), show (nI j).toInt.toNat = j by rw [hti]; rfl, hgj]
    simp only [s66_0, s66_1, s66_4, s66_5, s66_8i, s66_8r, s66_8n, s66_9, s66_10n, s66_10s, s66_13, s66_14, s66_15, s66_48, s66_49, s66_52, s66_53, s66_54, s66_57, s66_60, s66_61, s66_62, s66_65n, s66_65s, s66_68, s66_69, s66_72, s66_75, s66_78, s66_80, s66_81, s66_82, s66_85, s66_86, s66_87, eq_self, ixk_some, bd_some, nl_n, nl_i, nl_r, Option.toList_some, Option.toList_none, List.cons_append, List.nil_append, h.1, n3]
    by_cases w0 : w = 0
    · subst w0; simp only [s66_0, s66_1, s66_4, s66_5, s66_8i, s66_8r, s66_8n, s66_9, s66_10n, s66_10s, s66_13, s66_14, s66_15, s66_16_0, s66_16_1, s66_16_2, s66_16_3, s66_16_d, s66_48, s66_49, s66_52, s66_53, s66_54, s66_57, s66_60, s66_61, s66_62, s66_65n, s66_65s, s66_68, s66_69, s66_72, s66_75, s66_78, s66_80, s66_81, s66_82, s66_85, s66_86, s66_87, eq_self, ixk_some, bd_some, nl_n, nl_i, nl_r, Option.toList_some, Option.toList_none, List.cons_append, List.nil_append, m0]; simp
    by_cases w1 : w = 1
    · subst w1; simp only [s66_0, s66_1, s66_4, s66_5, s66_8i, s66_8r, s66_8n, s66_9, s66_10n, s66_10s, s66_13, s66_14, s66_15, s66_16_0, s66_16_1, s66_16_2, s66_16_3, s66_16_d, s66_48, s66_49, s66_52, s66_53, s66_54, s66_57, s66_60, s66_61, s66_62, s66_65n, s66_65s, s66_68, s66_69, s66_72, s66_75, s66_78, s66_80, s66_81, s66_82, s66_85, s66_86, s66_87, eq_self, ixk_some, bd_some, nl_n, nl_i, nl_r, Option.toList_some, Option.toList_none, List.cons_append, List.nil_append, m1, (hp.2.2.2.2.2.2 _ ok.2.1).1]; simp
    by_cases w2 : w = 2
    · subst w2
      cases hq : g_as g with
      | none => rw [hq] at m2; simp only [s66_0, s66_1, s66_4, s66_5, s66_8i, s66_8r, s66_8n, s66_9, s66_10n, s66_10s, s66_13, s66_14, s66_15, s66_16_0, s66_16_1, s66_16_2, s66_16_3, s66_16_d, s66_48, s66_49, s66_52, s66_53, s66_54, s66_57, s66_60, s66_61, s66_62, s66_65n, s66_65s, s66_68, s66_69, s66_72, s66_75, s66_78, s66_80, s66_81, s66_82, s66_85, s66_86, s66_87, eq_self, ixk_some, bd_some, nl_n, nl_i, nl_r, Option.toList_some, Option.toList_none, List.cons_append, List.nil_append, m2]; simp [enc]
      | some k =>
        rw [hq] at m2
        simp only [s66_0, s66_1, s66_4, s66_5, s66_8i, s66_8r, s66_8n, s66_9, s66_10n, s66_10s, s66_13, s66_14, s66_15, s66_16_0, s66_16_1, s66_16_2, s66_16_3, s66_16_d, s66_48, s66_49, s66_52, s66_53, s66_54, s66_57, s66_60, s66_61, s66_62, s66_65n, s66_65s, s66_68, s66_69, s66_72, s66_75, s66_78, s66_80, s66_81, s66_82, s66_85, s66_86, s66_87, eq_self, ixk_some, bd_some, nl_n, nl_i, nl_r, Option.toList_some, Option.toList_none, List.cons_append, List.nil_append, m2, (ha.2.2.2.2.2.1 k (ok.2.2 k hq)).1]; simp [enc]
    by_cases w3 : w = 3
    · subst w3; simp only [s66_0, s66_1, s66_4, s66_5, s66_8i, s66_8r, s66_8n, s66_9, s66_10n, s66_10s, s66_13, s66_14, s66_15, s66_16_0, s66_16_1, s66_16_2, s66_16_3, s66_16_d, s66_48, s66_49, s66_52, s66_53, s66_54, s66_57, s66_60, s66_61, s66_62, s66_65n, s66_65s, s66_68, s66_69, s66_72, s66_75, s66_78, s66_80, s66_81, s66_82, s66_85, s66_86, s66_87, eq_self, ixk_some, bd_some, nl_n, nl_i, nl_r, Option.toList_some, Option.toList_none, List.cons_append, List.nil_append, m3]; simp
    · have ho := tsw_out (w := w) (n := 3) (fun j hj => by
        match j, hj with
        | 0, _ => exact w0
        | 1, _ => exact w1
        | 2, _ => exact w2
        | 3, _ => exact w3) (by decide)
      rw [s66_16_d ho]
      simp only [s66_0, s66_1, s66_4, s66_5, s66_8i, s66_8r, s66_8n, s66_9, s66_10n, s66_10s, s66_13, s66_14, s66_15, s66_48, s66_49, s66_52, s66_53, s66_54, s66_57, s66_60, s66_61, s66_62, s66_65n, s66_65s, s66_68, s66_69, s66_72, s66_75, s66_78, s66_80, s66_81, s66_82, s66_85, s66_86, s66_87, eq_self, ixk_some, bd_some, nl_n, nl_i, nl_r, Option.toList_some, Option.toList_none, List.cons_append, List.nil_append]
      simp [w0, w1, w2, w3]
  · rw [if_neg h0]
    simp only [s66_0, s66_1, s66_4, s66_5, s66_8i, s66_8r, s66_8n, s66_9, s66_10n, s66_10s, s66_13, s66_14, s66_15, s66_16_0, s66_16_1, s66_16_2, s66_16_3, s66_16_d, s66_48, s66_49, s66_52, s66_53, s66_54, s66_57, s66_60, s66_61, s66_62, s66_65n, s66_65s, s66_68, s66_69, s66_72, s66_75, s66_78, s66_80, s66_81, s66_82, s66_85, s66_86, s66_87, eq_self, ixk_some, bd_some, nl_n, nl_i, nl_r, Option.toList_some, Option.toList_none, List.cons_append, List.nil_append, h.1, n3]
theorem go_canBeTaken {s : ST} {m : MM} {g : MSG} {n : Nat} (hc : RCc s m) (hg : RC3 g m n) (hs : g_so g ≤ 10) : go 67 0 [some (vr 7 (some 0)), some (vr 4 (some n))] [] m = some (some (vi (b2 (may s g))), m) := by
  have ho := go_isOn hc
  simp only [s67_0, s67_1, s67_4, s67_7, s67_10, s67_11, s67_14, s67_15, s67_18, s67_19, s67_22, s67_23, s67_26, s67_27, s67_30, s67_31b0, s67_31b1, eq_self, ixk_some, bd_some, nl_n, nl_i, nl_r, Option.toList_some, Option.toList_none, List.cons_append, List.nil_append, hc.1, ho, hg.1]
  unfold may
  have e3 : nI (g_so g) = 3 ↔ g_so g = 3 := by rw [show (3 : Int32) = nI 3 from rfl, nI_eq (by omega) (by omega)]
  have e4 : nI (g_so g) = 4 ↔ g_so g = 4 := by rw [show (4 : Int32) = nI 4 from rfl, nI_eq (by omega) (by omega)]
  by_cases h0 : c_ck s = 0
  · simp [h0, b2]
  · have : 0 < c_ck s := by omega
    simp only [this, decide_true, b2_t, e3, e4]
    by_cases h3 : g_so g = 3
    · simp [h0, h3, b2]
    · by_cases h4 : g_so g = 4
      · simp [h0, h4, b2]
      · simp [h0, h3, h4, b2]
def fiF (P : MSG → Bool) : List MSG → Nat → Option Nat
  | [], _ => none
  | g :: r, i => if P g = true then some i else fiF P r (i + 1)
theorem first_loop {s : ST} {m : MM} (h : RCm s m) (hc : RCc s m) (hg : ∀ g ∈ c_ms s, GOK s g) : ∀ (r : List MSG) (i : Nat), (c_ms s).drop i = r → i ≤ (c_ms s).length → go 68 2 [some (vr 7 (some 0)), some (vi (nI i))] [] m = some (some (vi (enc (fiF (may s) r i))), m) := by
  obtain ⟨h1, h2, h3, h4, h5, h6, h7⟩ := h
  intro r
  induction r with
  | nil =>
    intro i hi hle
    have : (c_ms s).length ≤ i := by simpa using hi
    rw [s68_2]
    simp only [s68_0, s68_1i, s68_1r, s68_1n, s68_3, s68_4, s68_7, s68_10, s68_13, s68_14, s68_15, s68_18, s68_21, s68_22, s68_23, s68_26, s68_29, s68_30, s68_31i, s68_31r, s68_31n, s68_34, s68_37, s68_39, eq_self, ixk_some, bd_some, nl_n, nl_i, nl_r, Option.toList_some, Option.toList_none, List.cons_append, List.nil_append, h1, h4]
    rw [if_pos (nI_le (by omega) (by omega))]
    rfl
  | cons g r ih =>
    intro i hi hle
    have hlt : i < (c_ms s).length := by
      have h9 := congrArg List.length hi
      simp at h9; omega
    have hgi : (c_ms s)[i]? = some g := by
      have h9 : ((c_ms s).drop i)[0]? = some g := by rw [hi]; rfl
      simpa using h9
    have hr : (c_ms s).drop (i + 1) = r := by
      rw [← List.drop_drop, hi]; rfl
    obtain ⟨n, n1, n2⟩ := h7 i g hgi
    have hix := ix_nI (i := i) (n := mN m 11 0) (by rw [h3]; omega) (by rw [h3]; decide)
    have hcb := go_canBeTaken hc n2 (hg g (List.mem_of_getElem? hgi)).1
    rw [s68_2]
    simp only [s68_0, s68_1i, s68_1r, s68_1n, s68_3, s68_4, s68_7, s68_10, s68_13, s68_14, s68_15, s68_18, s68_21, s68_22, s68_23, s68_26, s68_29, s68_30, s68_31i, s68_31r, s68_31n, s68_34, s68_37, s68_39, eq_self, ixk_some, bd_some, nl_n, nl_i, nl_r, Option.toList_some, Option.toList_none, List.cons_append, List.nil_append, h1, h2, h4, hix, n1, hcb]
    rw [if_neg (nI_ge (by omega) (by omega)), nI_1, ih (i + 1) hr (by omega)]
    by_cases hm : may s g = true
    · rw [hm, if_neg (show ¬ b2 true = 0 by decide)]
      simp [fiF, hm, enc]
    · have hm : may s g = false := by simpa using hm
      rw [hm, if_pos (show b2 false = 0 from rfl)]
      simp [fiF, hm]
theorem fiF_idx (P : MSG → Bool) : ∀ (r : List MSG) (i : Nat), fiF P r i = (r.findIdx? P).map (· + i)
  | [], i => rfl
  | g :: r, i => by
    simp only [fiF, List.findIdx?_cons]
    by_cases h : P g = true
    · simp [h]
    · simp only [h, if_false, Bool.false_eq_true]
      rw [fiF_idx P r (i + 1)]
      cases r.findIdx? P with
      | none => rfl
      | some j => simp; omega
theorem go_firstToTake {s : ST} {m : MM} (h : RCm s m) (hc : RCc s m) (hg : ∀ g ∈ c_ms s, GOK s g) : go 68 0 [some (vr 7 (some 0)), none] [] m = some (some (vi (enc ((c_ms s).findIdx? (may s)))), m) := by
  simp only [s68_0, s68_1i, s68_1r, s68_1n, eq_self, ixk_some, bd_some, nl_n, nl_i, nl_r, Option.toList_some, Option.toList_none, List.cons_append, List.nil_append]
  have := first_loop h hc hg (c_ms s) 0 rfl (by omega)
  rw [fiF_idx] at this
  have e : ((c_ms s).findIdx? (may s)).map (· + 0) = (c_ms s).findIdx? (may s) := by cases (c_ms s).findIdx? (may s) <;> rfl
  rw [e] at this
  exact this
