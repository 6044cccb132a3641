/-! the class: what reads peers -/
def CLs (s : ST) : Prop := (∀ i l d p, i < c_n s → c_kl s i l d = some p → p < c_n s) ∧ ∀ i d p, i < c_n s → c_ol s i d = some p → p < c_n s
theorem cls_lnk {s : ST} (h : CLs s) {i l d p : Nat} (hi : i < c_n s) (hp : lnk s i l d = some p) : p < c_n s := by
  unfold lnk at hp
  split at hp
  · exact h.1 i l d p hi hp
  · cases hp
theorem x_ix {n : Nat} (x : Int32) (hn : n < 2 ^ 31) : (x < 0 ∧ ¬ (0 ≤ x.toInt ∧ x.toInt < n)) ∨ (¬ x < 0 ∧ nI n ≤ x ∧ ¬ (0 ≤ x.toInt ∧ x.toInt < n)) ∨ ∃ j, j < n ∧ x = nI j ∧ x.toInt = (j : Int) := by
  by_cases h0 : x < 0
  · refine Or.inl ⟨h0, ?_⟩
    rw [Int32.lt_iff_toInt_lt, Int32.toInt_zero] at h0
    omega
  · obtain ⟨j, hj, rfl⟩ := nI_of h0
    have ht := nI_toInt hj
    by_cases h1 : j < n
    · exact Or.inr (Or.inr ⟨j, h1, rfl, ht⟩)
    · refine Or.inr (Or.inl ⟨h0, nI_le (by omega) hj, ?_⟩)
      rw [ht]; omega
theorem ix2 {l d : Nat} (hd : d < 2) : nI l * 2 + (nI d &&& 1) = nI (2 * l + d) := by
  have h1 : nI l * 2 = nI (2 * l) := by
    rw [Nat.mul_comm]
    exact (Int32.ofNat_mul l 2).symm
  have h2 : nI d &&& 1 = nI d := by
    match d, hd with
    | 0, _ => rfl
    | 1, _ => rfl
  rw [h1, h2, nI_add]
def tgN (s : ST) (i l : Nat) : Nat := if c_hs s i l = true then 6 else 0
theorem go_next {s : ST} {m : MM} {i l d : Nat} (h : RCp s m) (hi : i < c_n s) (hl : l < 9) (hd : d < 2) : go 27 0 [some (vr 6 (some i)), some (vi (nI l)), some (vi (nI d))] [] m = some (some (vr (tgN s i l) (lnk s i l d)), m) := by
  have hp := go_hasPlace h hi (show l < 2 ^ 31 by omega)
  obtain ⟨h1, h2, h3, h4, h5, h6, h7⟩ := h
  obtain ⟨g0, g1, g2, g3, g4, g5, g6, g7, g8, g9, g10, g11, g12⟩ := h7 i hi
  have hix := ix_nI (i := 2 * l + d) (n := mN m 15 i) (by rw [g11]; omega) (by rw [g11]; decide)
  simp only [s27_0, s27_1, s27_2, s27_5, s27_8, s27_9, s27_12, s27_13, s27_14, s27_15, s27_16, s27_17, s27_18, s27_19, s27_20, s27_23, s27_24, eq_self, ixk_some, bd_some, nl_n, nl_i, nl_r, Option.toList_some, Option.toList_none, List.cons_append, List.nil_append, hp, g6, ix2 hd, hix, hl, decide_true, Bool.true_and, tgN, lnk]
  cases hq : c_hs s i l
  · rfl
  · have hv : mR m 15 i (2 * l + d) = c_kl s i l d := by
      match d, hd with
      | 0, _ => exact (g12 l hl).2.1
      | 1, _ => exact (g12 l hl).2.2
    rw [hv]
    rfl
theorem go_startsAs {s : ST} {m : MM} {i j l : Nat} (h : RCp s m) (hi : i < c_n s) (hj : j < c_n s) : go 24 0 [some (vr 6 (some i)), some (vr 6 (some j)), some (vi (nI l))] [] m = some (some (vi (b2 (like s i j l))), m) := by
  have g := (h.2.2.2.2.2.2 i hi).2.2.1
  have g' := (h.2.2.2.2.2.2 j hj).2.2.1
  simp only [s24_0, s24_1, s24_4, s24_5, s24_8, s24_9, s24_10, s24_11, s24_12, s24_13, s24_14, s24_15, s24_18, s24_19, s24_22, s24_23b0, s24_23b1, eq_self, ixk_some, bd_some, nl_n, nl_i, nl_r, Option.toList_some, Option.toList_none, List.cons_append, List.nil_append, g, g', like, lkb]
  by_cases hq : (c_bt s i ^^^ c_bt s j) &&& ((1 : Int32) <<< (nI l &&& 31) - 1) = 0
  · simp [hq, b2]
  · simp [hq, b2]
theorem go_isBeyond {s : ST} {m : MM} {i j d : Nat} (h : RCp s m) (hi : i < c_n s) (hj : j < c_n s) (hd : d < 2) : go 25 0 [some (vr 6 (some i)), some (vr 6 (some j)), some (vi (nI d))] [] m = some (some (vi (b2 (bey s i j d))), m) := by
  have g := (h.2.2.2.2.2.2 i hi).2.1
  have g' := (h.2.2.2.2.2.2 j hj).2.1
  simp only [s25_0, s25_1, s25_4, s25_5, s25_8, s25_9, s25_12, s25_15, s25_16, s25_19, s25_20, s25_23, s25_24, s25_27, s25_28, s25_31, s25_34, s25_35, s25_38, s25_39b0, s25_39b1, eq_self, ixk_some, bd_some, nl_n, nl_i, nl_r, Option.toList_some, Option.toList_none, List.cons_append, List.nil_append, g, g', bey]
  match d, hd with
  | 0, _ =>
    rw [if_neg (by decide), if_pos rfl]
    by_cases hq : c_nm s i < c_nm s j
    · rw [if_neg (by rw [Int32.not_le]; exact hq)]; simp [hq, b2]
    · rw [if_pos (by rw [← Int32.not_lt]; exact hq)]; simp [hq, b2]
  | 1, _ =>
    rw [if_pos (show ¬ nI 1 = 0 by decide), show (if (1 : Nat) = 0 then decide (c_nm s i < c_nm s j) else decide (c_nm s j < c_nm s i)) = decide (c_nm s j < c_nm s i) from rfl]
    by_cases hq : c_nm s j < c_nm s i
    · rw [if_neg (by rw [Int32.not_le]; exact hq)]; simp [hq, b2]
    · rw [if_pos (by rw [← Int32.not_lt]; exact hq)]; simp [hq, b2]
def sbd (s : ST) (i l : Nat) : Bool := !((lnk s i l 0).isNone && (lnk s i l 1).isNone)
theorem go_hasSomebody {s : ST} {m : MM} {i l : Nat} (h : RCp s m) (hi : i < c_n s) (hl : l < 9) : go 28 0 [some (vr 6 (some i)), some (vi (nI l))] [] m = some (some (vi (b2 (sbd s i l))), m) := by
  have n0 := go_next h hi hl (d := 0) (by decide)
  have n1 := go_next h hi hl (d := 1) (by decide)
  simp only [← nI_k0, ← nI_k1] at n0 n1
  simp only [s28_0, s28_1, s28_2, s28_3, s28_9, s28_10, s28_11, s28_12, s28_18, s28_19, s28_22, s28_23b0, s28_23b1, eq_self, ixk_some, bd_some, nl_n, nl_i, nl_r, Option.toList_some, Option.toList_none, List.cons_append, List.nil_append, n0, n1]
  cases h0 : lnk s i l 0 with
  | some p => simp only [s28_0, s28_1, s28_2, s28_3, s28_6n, s28_6s, s28_9, s28_10, s28_11, s28_12, s28_15n, s28_15s, s28_18, s28_19, s28_22, s28_23b0, s28_23b1, eq_self, ixk_some, bd_some, nl_n, nl_i, nl_r, Option.toList_some, Option.toList_none, List.cons_append, List.nil_append, sbd, h0]; rfl
  | none =>
    simp only [s28_0, s28_1, s28_2, s28_3, s28_6n, s28_6s, s28_9, s28_10, s28_11, s28_12, s28_18, s28_19, s28_22, s28_23b0, s28_23b1, eq_self, ixk_some, bd_some, nl_n, nl_i, nl_r, Option.toList_some, Option.toList_none, List.cons_append, List.nil_append, n1]
    cases h1 : lnk s i l 1 with
    | some p => simp only [s28_0, s28_1, s28_2, s28_3, s28_6n, s28_6s, s28_9, s28_10, s28_11, s28_12, s28_15n, s28_15s, s28_18, s28_19, s28_22, s28_23b0, s28_23b1, eq_self, ixk_some, bd_some, nl_n, nl_i, nl_r, Option.toList_some, Option.toList_none, List.cons_append, List.nil_append, sbd, h0, h1]; rfl
    | none => simp only [s28_0, s28_1, s28_2, s28_3, s28_6n, s28_6s, s28_9, s28_10, s28_11, s28_12, s28_15n, s28_15s, s28_18, s28_19, s28_22, s28_23b0, s28_23b1, eq_self, ixk_some, bd_some, nl_n, nl_i, nl_r, Option.toList_some, Option.toList_none, List.cons_append, List.nil_append, sbd, h0, h1]; rfl
theorem placesHeld_loop {s : ST} {m : MM} {i : Nat} (h : RCp s m) (hi : i < c_n s) : ∀ d l acc, l + d = 9 → go 33 4 [some (vr 6 (some i)), some (vi (nI acc)), some (vi (nI l))] [] m = some (some (vi (nI (acc + cntF (fun l => c_hs s i l) d l))), m) := by
  obtain ⟨g0, g1, g2, g3, g4, g5, g6, g7, g8, g9, g10, g11, g12⟩ := h.2.2.2.2.2.2 i hi
  intro d
  induction d with
  | zero =>
    intro l acc hl
    rw [s33_4]
    simp only [s33_0, s33_1i, s33_1r, s33_1n, s33_2, s33_3i, s33_3r, s33_3n, s33_5, s33_7, s33_10, s33_11, s33_12, s33_15, s33_16, s33_17, s33_20, s33_21, s33_24, s33_25, s33_26i, s33_26r, s33_26n, s33_27i, s33_27r, s33_27n, s33_30, s33_33, s33_34, eq_self, ixk_some, bd_some, nl_n, nl_i, nl_r, Option.toList_some, Option.toList_none, List.cons_append, List.nil_append]
    rw [nI_k9, if_pos (nI_le (by omega) (by omega))]
    rfl
  | succ d ih =>
    intro l acc hl
    have hix := ix_nI (i := l) (n := mN m 14 i) (by rw [g10]; omega) (by rw [g10]; decide)
    rw [s33_4]
    simp only [s33_0, s33_1i, s33_1r, s33_1n, s33_2, s33_3i, s33_3r, s33_3n, s33_5, s33_7, s33_10, s33_11, s33_12, s33_15, s33_16, s33_17, s33_20, s33_21, s33_24, s33_25, s33_26i, s33_26r, s33_26n, s33_27i, s33_27r, s33_27n, s33_30, s33_33, s33_34, eq_self, ixk_some, bd_some, nl_n, nl_i, nl_r, Option.toList_some, Option.toList_none, List.cons_append, List.nil_append, g5, hix, (g12 l (by omega)).1]
    rw [nI_k9, if_neg (nI_ge (by omega) (by omega)), nI_1]
    cases hq : c_hs s i l
    · rw [if_pos (show b2 false = 0 from rfl), nI_k0, nI_add, ih (l + 1) _ (by omega)]
      simp [cntF, hq]
    · rw [if_neg (by decide), nI_1, ih (l + 1) _ (by omega)]
      simp only [cntF, hq, if_true]
      rw [Nat.add_assoc]
theorem go_placesHeld {s : ST} {m : MM} {i : Nat} (h : RCp s m) (hi : i < c_n s) : go 33 0 [some (vr 6 (some i)), none, none] [] m = some (some (vi (nI (cntF (fun l => c_hs s i l) 9 0))), m) := by
  simp only [s33_0, s33_1i, s33_1r, s33_1n, s33_2, s33_3i, s33_3r, s33_3n, eq_self, ixk_some, bd_some, nl_n, nl_i, nl_r, Option.toList_some, Option.toList_none, List.cons_append, List.nil_append]
  have := placesHeld_loop h hi 9 0 0 rfl
  rw [Nat.zero_add] at this
  exact this
theorem isNamed_loop {s : ST} {m : MM} {name : Int32} (h : RCp s m) : ∀ d i, i + d = c_n s → go 42 2 [some (vr 7 (some 0)), some (vi name), some (vi (nI i))] [] m = some (some (vi (b2 (anyF (fun p => c_nm s p == name) d i))), m) := by
  obtain ⟨h1, h2, h3, h4, h5, h6, h7⟩ := h
  intro d
  induction d with
  | zero =>
    intro i hi
    rw [s42_2]
    simp only [s42_0, s42_1i, s42_1r, s42_1n, s42_3, s42_4, s42_7, s42_10, s42_11, s42_14, s42_15, s42_16, s42_19, s42_20, s42_23, s42_24b0, s42_24b1, s42_25i, s42_25r, s42_25n, s42_28, s42_31, s42_32b0, s42_32b1, eq_self, ixk_some, bd_some, nl_n, nl_i, nl_r, Option.toList_some, Option.toList_none, List.cons_append, List.nil_append, h2]
    rw [if_pos (nI_le (by omega) (by omega))]
    rfl
  | succ d ih =>
    intro i hi
    have hix := ix_nI (i := i) (n := mN m 16 0) (by rw [h4]; omega) (by rw [h4]; decide)
    have g1 := (h7 i (by omega)).2.1
    rw [s42_2]
    simp only [s42_0, s42_1i, s42_1r, s42_1n, s42_3, s42_4, s42_7, s42_10, s42_11, s42_14, s42_15, s42_16, s42_19, s42_20, s42_23, s42_24b0, s42_24b1, s42_25i, s42_25r, s42_25n, s42_28, s42_31, s42_32b0, s42_32b1, eq_self, ixk_some, bd_some, nl_n, nl_i, nl_r, Option.toList_some, Option.toList_none, List.cons_append, List.nil_append, h2, h3, hix, h5 i (by omega), g1]
    rw [if_neg (nI_ge (by omega) (by omega)), nI_1]
    by_cases hq : c_nm s i = name
    · simp [hq, anyF, b2]
    · have hf : (c_nm s i == name) = false := by simp [hq]
      rw [if_pos hq, ih (i + 1) (by omega)]
      simp only [anyF, hf, Bool.false_or]
theorem go_isNamed {s : ST} {m : MM} {name : Int32} (h : RCp s m) : go 42 0 [some (vr 7 (some 0)), some (vi name), none] [] m = some (some (vi (b2 (isNm s name))), m) := by
  simp only [s42_0, s42_1i, s42_1r, s42_1n, eq_self, ixk_some, bd_some, nl_n, nl_i, nl_r, Option.toList_some, Option.toList_none, List.cons_append, List.nil_append]
  exact isNamed_loop h (c_n s) 0 (by omega)
theorem go_peerAt {s : ST} {m : MM} {p : Int32} (h : RCp s m) : go 43 0 [some (vr 7 (some 0)), some (vi p)] [] m = some (some (if isP s p = true then vr 6 (some p.toInt.toNat) else vr 0 none), m) := by
  obtain ⟨h1, h2, h3, h4, h5, h6, h7⟩ := h
  simp only [s43_0, s43_1, s43_4, s43_5, s43_6, s43_9, s43_12, s43_13, s43_16, s43_17, s43_18, s43_21, s43_22, eq_self, ixk_some, bd_some, nl_n, nl_i, nl_r, Option.toList_some, Option.toList_none, List.cons_append, List.nil_append, h2, h3]
  rcases x_ix (n := c_n s) p (by omega) with ⟨a1, a2⟩ | ⟨a1, a2, a3⟩ | ⟨j, hj, rfl, a3⟩
  · rw [if_pos a1]; simp [isP, a2]
  · rw [if_neg a1, if_pos a2]; simp [isP, a3]
  · have hix := ix_nI (i := j) (n := mN m 16 0) (by rw [h4]; omega) (by rw [h4]; decide)
    rw [if_neg (nI_pos (by omega)), if_neg (nI_ge hj (by omega)), hix, ixk_some, h5 j hj]
    simp [isP, a3, hj]
theorem howManyIn_loop {s : ST} {m : MM} (h : RCp s m) : ∀ d i acc, i + d = c_n s → go 44 4 [some (vr 7 (some 0)), some (vi (nI acc)), some (vi (nI i))] [] m = some (some (vi (nI (acc + cntF (fun p => c_be s p == 2) d i))), m) := by
  obtain ⟨h1, h2, h3, h4, h5, h6, h7⟩ := h
  intro d
  induction d with
  | zero =>
    intro i acc hi
    rw [s44_4]
    simp only [s44_0, s44_1i, s44_1r, s44_1n, s44_2, s44_3i, s44_3r, s44_3n, s44_5, s44_6, s44_9, s44_12, s44_13, s44_14, s44_17, s44_18, s44_19, s44_22, s44_23, s44_26, s44_27, s44_30, s44_31, s44_32i, s44_32r, s44_32n, s44_33i, s44_33r, s44_33n, s44_36, s44_39, s44_40, eq_self, ixk_some, bd_some, nl_n, nl_i, nl_r, Option.toList_some, Option.toList_none, List.cons_append, List.nil_append, h2]
    rw [if_pos (nI_le (by omega) (by omega))]
    rfl
  | succ d ih =>
    intro i acc hi
    have hix := ix_nI (i := i) (n := mN m 16 0) (by rw [h4]; omega) (by rw [h4]; decide)
    have g3 := (h7 i (by omega)).2.2.2.1
    have hb := h6 i (by omega)
    rw [s44_4]
    simp only [s44_0, s44_1i, s44_1r, s44_1n, s44_2, s44_3i, s44_3r, s44_3n, s44_5, s44_6, s44_9, s44_12, s44_13, s44_14, s44_17, s44_18, s44_19, s44_22, s44_23, s44_26, s44_27, s44_30, s44_31, s44_32i, s44_32r, s44_32n, s44_33i, s44_33r, s44_33n, s44_36, s44_39, s44_40, eq_self, ixk_some, bd_some, nl_n, nl_i, nl_r, Option.toList_some, Option.toList_none, List.cons_append, List.nil_append, h2, h3, hix, h5 i (by omega), g3]
    rw [if_neg (nI_ge (by omega) (by omega)), nI_1]
    by_cases hq : c_be s i = 2
    · rw [if_neg (by rw [hq]; decide), nI_1, ih (i + 1) _ (by omega)]
      simp only [cntF, hq, beq_self_eq_true, if_true]
      rw [Nat.add_assoc]
    · rw [if_pos (by rw [nI_k2, nI_eq (by omega) (by omega)]; exact hq), nI_k0, nI_add, ih (i + 1) _ (by omega)]
      simp [cntF, hq]
theorem go_howManyIn {s : ST} {m : MM} (h : RCp s m) : go 44 0 [some (vr 7 (some 0)), none, none] [] m = some (some (vi (nI (nIn s))), m) := by
  simp only [s44_0, s44_1i, s44_1r, s44_1n, s44_2, s44_3i, s44_3r, s44_3n, eq_self, ixk_some, bd_some, nl_n, nl_i, nl_r, Option.toList_some, Option.toList_none, List.cons_append, List.nil_append]
  have := howManyIn_loop h (c_n s) 0 0 (by omega)
  rw [Nat.zero_add] at this
  exact this
