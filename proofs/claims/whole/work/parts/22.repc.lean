/-! the class's tables hold the state -/
def b2 (b : Bool) : Int32 := if b = true then 1 else 0
theorem b2_t : b2 true = 1 := rfl
theorem b2_f : b2 false = 0 := rfl
/-- a peer's cells -/
def RC1 (s : ST) (m : MM) (i : Nat) : Prop :=
  mI m 6 i 0 = nI i ∧ mI m 6 i 1 = c_nm s i ∧ mI m 6 i 2 = c_bt s i ∧ mI m 6 i 3 = nI (c_be s i) ∧ mI m 6 i 4 = c_ld s i ∧
  mR m 6 i 5 = some i ∧ mR m 6 i 6 = some i ∧ mR m 6 i 7 = c_ol s i 0 ∧ mR m 6 i 8 = c_ol s i 1 ∧ mR m 6 i 9 = some (i + 1) ∧ mN m 14 i = 9 ∧ mN m 15 i = 18 ∧
  ∀ l, l < 9 → mI m 14 i l = b2 (c_hs s i l) ∧ mR m 15 i (2 * l) = c_kl s i l 0 ∧ mR m 15 i (2 * l + 1) = c_kl s i l 1
def RCp (s : ST) (m : MM) : Prop :=
  c_n s ≤ 32 ∧ mI m 7 0 1 = nI (c_n s) ∧ mR m 7 0 0 = some 0 ∧ mN m 16 0 = 32 ∧ (∀ i, i < c_n s → mR m 16 0 i = some i) ∧ (∀ i, i < c_n s → c_be s i ≤ 3) ∧ ∀ i, i < c_n s → RC1 s m i
theorem nI_k0 : (0 : Int32) = nI 0 := rfl
theorem nI_k1 : (1 : Int32) = nI 1 := rfl
theorem nI_k2 : (2 : Int32) = nI 2 := rfl
theorem nI_k8 : (8 : Int32) = nI 8 := rfl
theorem nI_k9 : (9 : Int32) = nI 9 := rfl
theorem go_isAway {s : ST} {m : MM} {i : Nat} (h : RCp s m) (hi : i < c_n s) : go 23 0 [some (vr 6 (some i))] [] m = some (some (vi (b2 (awy s i))), m) := by
  obtain ⟨h1, h2, h3, h4, h5, h6, h7⟩ := h
  obtain ⟨g0, g1, g2, g3, g4, -⟩ := h7 i hi
  have hb := h6 i hi
  simp only [s23_0, s23_1, s23_4, s23_7, s23_8, s23_11, s23_12, s23_15, s23_16, s23_19, s23_20b0, s23_20b1, eq_self, ixk_some, bd_some, nl_n, nl_i, nl_r, Option.toList_some, Option.toList_none, List.cons_append, List.nil_append, g3, awy]
  generalize c_be s i = b at hb ⊢
  match b, hb with
  | 0, _ => rfl
  | 1, _ => rfl
  | 2, _ => rfl
  | 3, _ => rfl
theorem go_hasPlace {s : ST} {m : MM} {i l : Nat} (h : RCp s m) (hi : i < c_n s) (hl : l < 2 ^ 31) : go 26 0 [some (vr 6 (some i)), some (vi (nI l))] [] m = some (some (vi (b2 (decide (l < 9) && c_hs s i l))), m) := by
  obtain ⟨h1, h2, h3, h4, h5, h6, h7⟩ := h
  obtain ⟨g0, g1, g2, g3, g4, g5, g6, g7, g8, g9, g10, g11, g12⟩ := h7 i hi
  simp only [s26_0, s26_1, s26_4, s26_5, s26_7, s26_10, s26_11, s26_14, s26_15, s26_16, s26_19, s26_20, s26_23, s26_24b0, s26_24b1, eq_self, ixk_some, bd_some, nl_n, nl_i, nl_r, Option.toList_some, Option.toList_none, List.cons_append, List.nil_append, g5]
  rw [if_neg (nI_pos hl)]
  by_cases h9 : l < 9
  · have hix := ix_nI (i := l) (n := mN m 14 i) (by rw [g10]; exact h9) (by rw [g10]; decide)
    rw [nI_k9, if_neg (nI_ge (by omega) (by omega)), hix, ixk_some, (g12 l h9).1]
    cases c_hs s i l
    · simp [b2, h9]
    · simp [b2, h9]
  · rw [nI_k9, if_pos (nI_le (by omega) hl)]
    simp [b2, h9]
