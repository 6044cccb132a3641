/-! the reference: aims; what may come -/
theorem c64_gt (x y : Int32) : 0 < lg_cmp x.toInt64 y.toInt64 ↔ y < x := by
  rw [cmp_gt, Int64.lt_iff_toInt_lt, Int32.lt_iff_toInt_lt, t64, t64]
theorem c64_lt (x y : Int32) : lg_cmp x.toInt64 y.toInt64 < 0 ↔ x < y := by
  rw [cmp_lt, Int64.lt_iff_toInt_lt, Int32.lt_iff_toInt_lt, t64, t64]
theorem nI_n4 {p : Nat} (h : p < 2 ^ 31) : ¬ nI p = -4 := by
  intro z
  have := congrArg Int32.toInt z
  rw [nI_toInt h] at this
  have h4 : ((-4 : Int32)).toInt = -4 := by decide
  omega
def aimv (s : ST) (u : Nat) (x : Int32) : Int32 := match onw s u x with
  | some p => nI p
  | none => if awy s u = true then -11 else -10
theorem aimR_loop {s : ST} {m : MM} {i : Nat} {x : Int32} (h : RRp s m) (hc : CLs s) (hi : i < c_n s) : ∀ k (a5 : Option AV), k ≤ 9 →
    go 121 78 [some (vr 8 (some 0)), some (vi (nI i)), some (vl x.toInt64), none, some (vi (nI k + (-1))), a5] [] m = some (some (vi (match aml s i x 1 k with | some p => nI p | none => -10)), m) := by
  intro k
  induction k with
  | zero => 
    intro a5 hk
    rw [s121_78]
    simp only [s121_80, eq_self, ixk_some, bd_some, nl_n, nl_i, nl_r, Option.toList_some, Option.toList_none, List.cons_append, List.nil_append]
    rw [if_pos m1_neg]
    simp only [s121_121, s121_123, eq_self, ixk_some, bd_some, nl_n, nl_i, nl_r, Option.toList_some, Option.toList_none, List.cons_append, List.nil_append, aml]
  | succ k ih => 
    intro a5 hk
    have n1 := rr_right (l := k) h hi (by omega)
    obtain ⟨hx, hn, h3, h4, h5, h6⟩ := h
    rw [s121_78]
    simp only [s121_80, eq_self, ixk_some, bd_some, nl_n, nl_i, nl_r, Option.toList_some, Option.toList_none, List.cons_append, List.nil_append, pk_m1]
    rw [if_neg (nI_pos (by omega))]
    simp only [s121_83, s121_84, s121_85, s121_87, s121_90i, s121_90r, s121_90n, s121_92, s121_94, eq_self, ixk_some, bd_some, nl_n, nl_i, nl_r, Option.toList_some, Option.toList_none, List.cons_append, List.nil_append, n1]
    unfold aml
    cases hl : lnk s i k 1 with
    | none => 
      have e : enc none = -4 := rfl
      rw [e]
      have := ih (some (vi (-4))) (by omega)
      simp only [s121_96, s121_115i, s121_115r, s121_115n, s121_118, eq_self, ixk_some, bd_some, nl_n, nl_i, nl_r, Option.toList_some, Option.toList_none, List.cons_append, List.nil_append, if_true]
      exact this
    | some p => 
      have hp := cls_lnk hc hi hl
      have gp := (h6 p hp).1
      have ip := ixN (FN_19 hn) (i := p) (by omega) (by decide)
      have e : enc (some p) = nI p := rfl
      rw [e]
      have := ih (some (vi (nI p))) (by omega)
      simp only [s121_96, eq_self, ixk_some, bd_some, nl_n, nl_i, nl_r, Option.toList_some, Option.toList_none, List.cons_append, List.nil_append, if_neg (nI_n4 (p := p) (by omega))]
      simp only [s121_99, s121_100, s121_103, s121_105, s121_106, s121_107, s121_108, s121_109, eq_self, ixk_some, bd_some, nl_n, nl_i, nl_r, Option.toList_some, Option.toList_none, List.cons_append, List.nil_append, FX_2 hx, FX_3 hx, FX_4 hx, FX_5 hx, FX_6 hx, FX_7 hx, FX_8 hx, FX_9 hx, FX_10 hx, FX_11 hx, FX_12 hx, FX_13 hx, FX_15 hx, FX_19 hx, FX_20 hx, FX_21 hx, FX_22 hx, FX_23 hx, FX_24 hx, FX_25 hx, FX_26 hx, FX_27 hx, FX_28 hx, FX_29 hx, FX_31 hx, FX_32 hx, FX_33 hx, FX_34 hx, FX_35 hx, FX_36 hx, FX_37 hx, FX_39 hx, FX_40 hx, ip, gp]
      by_cases hq : c_nm s p ≤ x
      · rw [if_neg (by rw [c64_gt]; exact i_nlt.mpr hq)]
        simp only [s121_112, s121_114, eq_self, ixk_some, bd_some, nl_n, nl_i, nl_r, Option.toList_some, Option.toList_none, List.cons_append, List.nil_append, if_true, if_pos hq]
      · rw [if_pos (by rw [c64_gt]; exact i_nle.mp hq)]
        simp only [s121_115i, s121_115r, s121_115n, s121_118, eq_self, ixk_some, bd_some, nl_n, nl_i, nl_r, Option.toList_some, Option.toList_none, List.cons_append, List.nil_append, if_true, if_neg hq]
        exact this
theorem aimL_loop {s : ST} {m : MM} {i : Nat} {x : Int32} (h : RRp s m) (hc : CLs s) (hi : i < c_n s) : ∀ k (a5 : Option AV), k ≤ 9 →
    go 121 128 [some (vr 8 (some 0)), some (vi (nI i)), some (vl x.toInt64), none, some (vi (nI k + (-1))), a5] [] m = some (some (vi (match aml s i x 0 k with | some p => nI p | none => match lnk s i 0 0 with | some p => nI p | none => -10)), m) := by
  intro k
  induction k with
  | zero => 
    intro a5 hk
    have n0 : go 112 0 [some (vr 8 (some 0)), some (vi (nI i)), some (vi 0)] [] m = some (some (vi (enc (lnk s i 0 0))), m) := rr_left (l := 0) h hi (by omega)
    rw [s121_128]
    simp only [s121_130, eq_self, ixk_some, bd_some, nl_n, nl_i, nl_r, Option.toList_some, Option.toList_none, List.cons_append, List.nil_append]
    rw [if_pos m1_neg]
    simp only [s121_171, s121_172, s121_173, s121_174, s121_177, s121_179, eq_self, ixk_some, bd_some, nl_n, nl_i, nl_r, Option.toList_some, Option.toList_none, List.cons_append, List.nil_append, n0, aml]
    cases hl : lnk s i 0 0 with
    | none => 
      have e : enc none = -4 := rfl
      rw [e]
      simp only [s121_191, s121_193, eq_self, ixk_some, bd_some, nl_n, nl_i, nl_r, Option.toList_some, Option.toList_none, List.cons_append, List.nil_append, if_true]
    | some p => 
      have hp := cls_lnk hc hi hl
      have h32 := h.2.2.1
      have e : enc (some p) = nI p := rfl
      rw [hl, e] at n0
      rw [e, if_neg (nI_n4 (p := p) (by omega))]
      simp only [s121_182, s121_183, s121_184, s121_185, s121_188, s121_193, eq_self, ixk_some, bd_some, nl_n, nl_i, nl_r, Option.toList_some, Option.toList_none, List.cons_append, List.nil_append, n0]
  | succ k ih => 
    intro a5 hk
    have n1 := rr_left (l := k) h hi (by omega)
    obtain ⟨hx, hn, h3, h4, h5, h6⟩ := h
    have x01 : ¬ (0 : Nat) = 1 := by decide
    rw [s121_128]
    simp only [s121_130, eq_self, ixk_some, bd_some, nl_n, nl_i, nl_r, Option.toList_some, Option.toList_none, List.cons_append, List.nil_append, pk_m1]
    rw [if_neg (nI_pos (by omega))]
    simp only [s121_133, s121_134, s121_135, s121_137, s121_140i, s121_140r, s121_140n, s121_142, s121_144, eq_self, ixk_some, bd_some, nl_n, nl_i, nl_r, Option.toList_some, Option.toList_none, List.cons_append, List.nil_append, n1]
    unfold aml
    cases hl : lnk s i k 0 with
    | none => 
      have e : enc none = -4 := rfl
      rw [e]
      have := ih (some (vi (-4))) (by omega)
      simp only [s121_146, s121_165i, s121_165r, s121_165n, s121_168, eq_self, ixk_some, bd_some, nl_n, nl_i, nl_r, Option.toList_some, Option.toList_none, List.cons_append, List.nil_append, if_true]
      exact this
    | some p => 
      have hp := cls_lnk hc hi hl
      have gp := (h6 p hp).1
      have ip := ixN (FN_19 hn) (i := p) (by omega) (by decide)
      have e : enc (some p) = nI p := rfl
      rw [e]
      have := ih (some (vi (nI p))) (by omega)
      simp only [s121_146, eq_self, ixk_some, bd_some, nl_n, nl_i, nl_r, Option.toList_some, Option.toList_none, List.cons_append, List.nil_append, if_neg (nI_n4 (p := p) (by omega))]
      simp only [s121_149, s121_150, s121_153, s121_155, s121_156, s121_157, s121_158, s121_159, eq_self, ixk_some, bd_some, nl_n, nl_i, nl_r, Option.toList_some, Option.toList_none, List.cons_append, List.nil_append, FX_2 hx, FX_3 hx, FX_4 hx, FX_5 hx, FX_6 hx, FX_7 hx, FX_8 hx, FX_9 hx, FX_10 hx, FX_11 hx, FX_12 hx, FX_13 hx, FX_15 hx, FX_19 hx, FX_20 hx, FX_21 hx, FX_22 hx, FX_23 hx, FX_24 hx, FX_25 hx, FX_26 hx, FX_27 hx, FX_28 hx, FX_29 hx, FX_31 hx, FX_32 hx, FX_33 hx, FX_34 hx, FX_35 hx, FX_36 hx, FX_37 hx, FX_39 hx, FX_40 hx, ip, gp]
      by_cases hq : x ≤ c_nm s p
      · rw [if_neg (by rw [c64_lt]; exact i_nlt.mpr hq)]
        simp only [s121_162, s121_164, eq_self, ixk_some, bd_some, nl_n, nl_i, nl_r, Option.toList_some, Option.toList_none, List.cons_append, List.nil_append, x01, if_false, if_pos hq]
      · rw [if_pos (by rw [c64_lt]; exact i_nle.mp hq)]
        simp only [s121_165i, s121_165r, s121_165n, s121_168, eq_self, ixk_some, bd_some, nl_n, nl_i, nl_r, Option.toList_some, Option.toList_none, List.cons_append, List.nil_append, x01, if_false, if_neg hq]
        exact this
theorem rr_aims {s : ST} {m : MM} {i : Nat} {x : Int32} (h : RRp s m) (hc : CLs s) (hi : i < c_n s) :
    go 121 0 [some (vr 8 (some 0)), some (vi (nI i)), some (vl x.toInt64), none, none, none] [] m = some (some (vi (aimv s i x)), m) := by
  have LR := aimR_loop (x := x) h hc hi 9 none (by omega)
  have LL := aimL_loop (x := x) h hc hi 9 none (by omega)
  obtain ⟨hx, hn, h3, h4, h5, h6⟩ := h
  obtain ⟨g1, g2, g3, g4, g5, g6, -⟩ := h6 i hi
  have i21 := ixN (FN_21 hn) (i := i) (by omega) (by decide)
  have i19 := ixN (FN_19 hn) (i := i) (by omega) (by decide)
  have i26 := ixN (FN_26 hn) (i := i) (by omega) (by decide)
  have i27 := ixN (FN_27 hn) (i := i) (by omega) (by decide)
  have bi := h5 i hi
  have e8 : (8 : Int32) = nI 9 + (-1) := by decide
  have e4 : enc none = -4 := rfl
  unfold aimv onw
  have hw : awy s i = true ↔ c_be s i = 0 ∨ c_be s i = 1 := by
    unfold awy
    simp
  by_cases ha : awy s i = true
  · rw [if_pos ha]
    have base : ∀ r, go 121 19 [some (vr 8 (some 0)), some (vi (nI i)), some (vl x.toInt64), none, none, none] [] m = r → go 121 0 [some (vr 8 (some 0)), some (vi (nI i)), some (vl x.toInt64), none, none, none] [] m = r := by
      intro r hr
      rw [← hr]
      rcases hw.mp ha with e | e
      · rw [e, show nI 0 = 0 from rfl] at g3
        simp [s121_0, s121_1, s121_4, s121_5, s121_6, eq_self, ixk_some, bd_some, nl_n, nl_i, nl_r, Option.toList_some, Option.toList_none, List.cons_append, List.nil_append, FX_2 hx, FX_3 hx, FX_4 hx, FX_5 hx, FX_6 hx, FX_7 hx, FX_8 hx, FX_9 hx, FX_10 hx, FX_11 hx, FX_12 hx, FX_13 hx, FX_15 hx, FX_19 hx, FX_20 hx, FX_21 hx, FX_22 hx, FX_23 hx, FX_24 hx, FX_25 hx, FX_26 hx, FX_27 hx, FX_28 hx, FX_29 hx, FX_31 hx, FX_32 hx, FX_33 hx, FX_34 hx, FX_35 hx, FX_36 hx, FX_37 hx, FX_39 hx, FX_40 hx, i21, g3]
      · rw [e, show nI 1 = 1 from rfl] at g3
        simp [s121_0, s121_1, s121_4, s121_5, s121_6, s121_9, s121_10, s121_13, s121_14, s121_15, s121_16, eq_self, ixk_some, bd_some, nl_n, nl_i, nl_r, Option.toList_some, Option.toList_none, List.cons_append, List.nil_append, FX_2 hx, FX_3 hx, FX_4 hx, FX_5 hx, FX_6 hx, FX_7 hx, FX_8 hx, FX_9 hx, FX_10 hx, FX_11 hx, FX_12 hx, FX_13 hx, FX_15 hx, FX_19 hx, FX_20 hx, FX_21 hx, FX_22 hx, FX_23 hx, FX_24 hx, FX_25 hx, FX_26 hx, FX_27 hx, FX_28 hx, FX_29 hx, FX_31 hx, FX_32 hx, FX_33 hx, FX_34 hx, FX_35 hx, FX_36 hx, FX_37 hx, FX_39 hx, FX_40 hx, i21, g3]
    refine base _ ?_
    cases h0 : c_ol s i 0 with
    | some p => 
      have hp := hc.2 i 0 p hi h0
      rw [h0] at g5
      have e : enc (some p) = nI p := rfl
      rw [e] at g5
      simp only [s121_19, s121_20, s121_23, s121_24, s121_25, s121_27, s121_30, s121_31, s121_34, s121_35, s121_36, s121_61, eq_self, ixk_some, bd_some, nl_n, nl_i, nl_r, Option.toList_some, Option.toList_none, List.cons_append, List.nil_append, FX_2 hx, FX_3 hx, FX_4 hx, FX_5 hx, FX_6 hx, FX_7 hx, FX_8 hx, FX_9 hx, FX_10 hx, FX_11 hx, FX_12 hx, FX_13 hx, FX_15 hx, FX_19 hx, FX_20 hx, FX_21 hx, FX_22 hx, FX_23 hx, FX_24 hx, FX_25 hx, FX_26 hx, FX_27 hx, FX_28 hx, FX_29 hx, FX_31 hx, FX_32 hx, FX_33 hx, FX_34 hx, FX_35 hx, FX_36 hx, FX_37 hx, FX_39 hx, FX_40 hx, i26, g5, if_neg (nI_n4 (p := p) (by omega))]
    | none => 
      rw [h0, e4] at g5
      cases h1 : c_ol s i 1 with
      | some p => 
        have hp := hc.2 i 1 p hi h1
        rw [h1] at g6
        have e : enc (some p) = nI p := rfl
        rw [e] at g6
        simp only [s121_19, s121_20, s121_23, s121_24, s121_25, s121_27, s121_39, s121_40, s121_43, s121_44, s121_45, s121_47, s121_50, s121_51, s121_54, s121_55, s121_56, s121_61, eq_self, ixk_some, bd_some, nl_n, nl_i, nl_r, Option.toList_some, Option.toList_none, List.cons_append, List.nil_append, FX_2 hx, FX_3 hx, FX_4 hx, FX_5 hx, FX_6 hx, FX_7 hx, FX_8 hx, FX_9 hx, FX_10 hx, FX_11 hx, FX_12 hx, FX_13 hx, FX_15 hx, FX_19 hx, FX_20 hx, FX_21 hx, FX_22 hx, FX_23 hx, FX_24 hx, FX_25 hx, FX_26 hx, FX_27 hx, FX_28 hx, FX_29 hx, FX_31 hx, FX_32 hx, FX_33 hx, FX_34 hx, FX_35 hx, FX_36 hx, FX_37 hx, FX_39 hx, FX_40 hx, i26, g5, i27, g6, if_neg (nI_n4 (p := p) (by omega)), if_true]
      | none => 
        rw [h1, e4] at g6
        simp only [s121_19, s121_20, s121_23, s121_24, s121_25, s121_27, s121_39, s121_40, s121_43, s121_44, s121_45, s121_47, s121_59, s121_61, eq_self, ixk_some, bd_some, nl_n, nl_i, nl_r, Option.toList_some, Option.toList_none, List.cons_append, List.nil_append, FX_2 hx, FX_3 hx, FX_4 hx, FX_5 hx, FX_6 hx, FX_7 hx, FX_8 hx, FX_9 hx, FX_10 hx, FX_11 hx, FX_12 hx, FX_13 hx, FX_15 hx, FX_19 hx, FX_20 hx, FX_21 hx, FX_22 hx, FX_23 hx, FX_24 hx, FX_25 hx, FX_26 hx, FX_27 hx, FX_28 hx, FX_29 hx, FX_31 hx, FX_32 hx, FX_33 hx, FX_34 hx, FX_35 hx, FX_36 hx, FX_37 hx, FX_39 hx, FX_40 hx, i26, g5, i27, g6, if_true, ha]
  · have ha' : awy s i = false := by
      cases hb : awy s i
      · rfl
      · exact absurd hb ha
    rw [if_neg ha]
    have n0 : ¬ nI (c_be s i) = 0 := be_ne0 bi (fun z => ha (hw.mpr (Or.inl z)))
    have n1 : ¬ nI (c_be s i) = 1 := fun z => ha (hw.mpr (Or.inr ((nI_eq (by omega) (by omega)).mp (show nI (c_be s i) = nI 1 from z))))
    simp only [s121_0, s121_1, s121_4, s121_5, s121_6, s121_9, s121_10, s121_13, s121_14, s121_15, s121_16, eq_self, ixk_some, bd_some, nl_n, nl_i, nl_r, Option.toList_some, Option.toList_none, List.cons_append, List.nil_append, FX_2 hx, FX_3 hx, FX_4 hx, FX_5 hx, FX_6 hx, FX_7 hx, FX_8 hx, FX_9 hx, FX_10 hx, FX_11 hx, FX_12 hx, FX_13 hx, FX_15 hx, FX_19 hx, FX_20 hx, FX_21 hx, FX_22 hx, FX_23 hx, FX_24 hx, FX_25 hx, FX_26 hx, FX_27 hx, FX_28 hx, FX_29 hx, FX_31 hx, FX_32 hx, FX_33 hx, FX_34 hx, FX_35 hx, FX_36 hx, FX_37 hx, FX_39 hx, FX_40 hx, i21, g3, n0, n1, if_false, not_false_eq_true, if_true]
    simp only [s121_62, s121_63, s121_66, s121_67, s121_68, s121_69, s121_70, s121_71, eq_self, ixk_some, bd_some, nl_n, nl_i, nl_r, Option.toList_some, Option.toList_none, List.cons_append, List.nil_append, FX_2 hx, FX_3 hx, FX_4 hx, FX_5 hx, FX_6 hx, FX_7 hx, FX_8 hx, FX_9 hx, FX_10 hx, FX_11 hx, FX_12 hx, FX_13 hx, FX_15 hx, FX_19 hx, FX_20 hx, FX_21 hx, FX_22 hx, FX_23 hx, FX_24 hx, FX_25 hx, FX_26 hx, FX_27 hx, FX_28 hx, FX_29 hx, FX_31 hx, FX_32 hx, FX_33 hx, FX_34 hx, FX_35 hx, FX_36 hx, FX_37 hx, FX_39 hx, FX_40 hx, i19, g1]
    by_cases hq : c_nm s i ≤ x
    · rw [if_neg (by rw [c64_gt]; exact i_nlt.mpr hq), if_pos hq]
      simp only [s121_74, s121_76i, s121_76r, s121_76n, eq_self, ixk_some, bd_some, nl_n, nl_i, nl_r, Option.toList_some, Option.toList_none, List.cons_append, List.nil_append]
      rw [e8, LR]
      cases aml s i x 1 9 <;> simp [ha']
    · rw [if_pos (by rw [c64_gt]; exact i_nle.mp hq), if_neg hq]
      simp only [s121_124, s121_126i, s121_126r, s121_126n, eq_self, ixk_some, bd_some, nl_n, nl_i, nl_r, Option.toList_some, Option.toList_none, List.cons_append, List.nil_append]
      rw [e8, LL]
      cases aml s i x 0 9 with
      | some p => rfl
      | none => 
        cases lnk s i 0 0 <;> simp [ha']
def asN (L : List MSG) : Prop := ∀ g ∈ L, (g_as g = none ↔ 4 < g_so g) ∧ g_so g ≤ 10
theorem chg_loop {s : ST} {m : MM} (hp : RRp s m) (h : RRm s m) (ha : asN (c_ms s)) : ∀ (r : List MSG) (i acc : Nat), (c_ms s).drop i = r → i ≤ (c_ms s).length →
    go 124 4 [some (vr 8 (some 0)), some (vi (nI acc)), some (vi (nI i))] [] m = some (some (vi (nI (acc + (r.filter fun g => (g_as g).isNone).length))), m) := by
  obtain ⟨hx, hn, -⟩ := hp
  obtain ⟨k1, k2, k3⟩ := h
  intro r
  induction r with
  | nil => 
    intro i acc hi hle
    have : (c_ms s).length ≤ i := by
      have := congrArg List.length hi
      rw [List.length_drop] at this
      simp at this
      omega
    rw [s124_4]
    simp only [s124_5, s124_6, s124_9, eq_self, ixk_some, bd_some, nl_n, nl_i, nl_r, Option.toList_some, Option.toList_none, List.cons_append, List.nil_append, k1]
    rw [if_pos (nI_le (by omega) (by omega))]
    simp [s124_36, s124_37, eq_self, ixk_some, bd_some, nl_n, nl_i, nl_r, Option.toList_some, Option.toList_none, List.cons_append, List.nil_append]
  | cons q r ih => 
    intro i acc hi hle
    have hlt : i < (c_ms s).length := by
      have := congrArg List.length hi
      rw [List.length_drop] at this
      simp at this
      omega
    have hq : (c_ms s)[i]? = some q := by
      have := congrArg List.head? hi
      rw [List.head?_drop] at this
      exact this
    have hr : (c_ms s).drop (i + 1) = r := by
      rw [← List.drop_drop, hi]
      rfl
    have g1 := (k3 i q hq).1
    obtain ⟨n1, n2⟩ := ha q (List.mem_of_getElem? hq)
    have ii := ixN (FN_43 hn) (i := i) (by omega) (by decide)
    have s1 : nI i + 1 = nI (i + 1) := nI_1 i
    have s2 : nI acc + 1 = nI (acc + 1) := nI_1 acc
    rw [s124_4]
    simp only [s124_5, s124_6, s124_9, eq_self, ixk_some, bd_some, nl_n, nl_i, nl_r, Option.toList_some, Option.toList_none, List.cons_append, List.nil_append, k1]
    rw [if_neg (nI_ge hlt (by omega))]
    have e4 : (4 : Int32) = nI 4 := rfl
    simp only [s124_12, s124_13, s124_14, s124_17, s124_18, s124_19, s124_20, eq_self, ixk_some, bd_some, nl_n, nl_i, nl_r, Option.toList_some, Option.toList_none, List.cons_append, List.nil_append, FX_2 hx, FX_3 hx, FX_4 hx, FX_5 hx, FX_6 hx, FX_7 hx, FX_8 hx, FX_9 hx, FX_10 hx, FX_11 hx, FX_12 hx, FX_13 hx, FX_15 hx, FX_19 hx, FX_20 hx, FX_21 hx, FX_22 hx, FX_23 hx, FX_24 hx, FX_25 hx, FX_26 hx, FX_27 hx, FX_28 hx, FX_29 hx, FX_31 hx, FX_32 hx, FX_33 hx, FX_34 hx, FX_35 hx, FX_36 hx, FX_37 hx, FX_39 hx, FX_40 hx, ii, g1]
    by_cases hn' : g_as q = none
    · have := n1.mp hn'
      rw [e4, if_neg (nI_ge this (by omega))]
      have := ih (i + 1) (acc + 1) hr (by omega)
      rw [List.filter_cons_of_pos (by rw [hn']; rfl), List.length_cons, ← Nat.add_assoc, Nat.add_right_comm, ← this]
      simp only [s124_23, s124_24, s124_28, s124_29i, s124_29r, s124_29n, s124_30i, s124_30r, s124_30n, s124_33, eq_self, ixk_some, bd_some, nl_n, nl_i, nl_r, Option.toList_some, Option.toList_none, List.cons_append, List.nil_append, s1, s2]
    · have hle4 : g_so q ≤ 4 := Nat.le_of_not_lt (fun z => hn' (n1.mpr z))
      rw [e4, if_pos (nI_le hle4 (by omega))]
      have := ih (i + 1) acc hr (by omega)
      have hs : (g_as q).isNone = false := by
        cases hh : g_as q
        · exact absurd hh hn'
        · rfl
      rw [List.filter_cons_of_neg (by rw [hs]; decide), ← this]
      simp [s124_27, s124_28, s124_29i, s124_29r, s124_29n, s124_30i, s124_30r, s124_30n, s124_33, eq_self, ixk_some, bd_some, nl_n, nl_i, nl_r, Option.toList_some, Option.toList_none, List.cons_append, List.nil_append, s1]
theorem rr_chg {s : ST} {m : MM} (hp : RRp s m) (h : RRm s m) (ha : asN (c_ms s)) : go 124 0 [some (vr 8 (some 0)), none, none] [] m = some (some (vi (nI (chM s))), m) := by
  have := chg_loop hp h ha (c_ms s) 0 0 (by simp) (Nat.zero_le _)
  rw [Nat.zero_add] at this
  rw [show chM s = ((c_ms s).filter fun g => (g_as g).isNone).length from rfl, ← this]
  simp only [s124_0, s124_1i, s124_1r, s124_1n, s124_2, s124_3i, s124_3r, s124_3n, eq_self, ixk_some, bd_some, nl_n, nl_i, nl_r, Option.toList_some, Option.toList_none, List.cons_append, List.nil_append]
  rfl
theorem rr_may {s : ST} {m : MM} {i : Nat} {g : MSG} (hp : RRp s m) (h : RRm s m) (hc : RRc s m) (hg : (c_ms s)[i]? = some g) (hs : g_so g ≤ 10) : go 148 0 [some (vr 8 (some 0)), some (vi (nI i))] [] m = some (some (vi (b2 (may s g))), m) := by
  obtain ⟨hx, hn, -⟩ := hp
  obtain ⟨k1, k2, k3⟩ := h
  obtain ⟨c1, c2, -⟩ := hc
  have hi := (List.getElem?_eq_some_iff.mp hg).1
  have g1 := (k3 i g hg).1
  have ii := ixN (FN_43 hn) (i := i) (by omega) (by decide)
  unfold may
  by_cases h0 : c_ck s = 0
  · rw [h0, show nI 0 = 0 from rfl] at c1
    simp [s148_0, s148_1, s148_4, s148_7, s148_8, s148_11, s148_12, s148_13, s148_14, s148_17, s148_18, s148_21, s148_22, s148_23, s148_24, s148_27, s148_28, s148_31, s148_32b0, s148_32b1, eq_self, ixk_some, bd_some, nl_n, nl_i, nl_r, Option.toList_some, Option.toList_none, List.cons_append, List.nil_append, c1, h0, b2]
  · have n0 : ¬ nI (c_ck s) = 0 := be_ne0 c2 h0
    have e3 : nI (g_so g) = 3 ↔ g_so g = 3 := nI_eq (a := g_so g) (b := 3) (by omega) (by omega)
    have e4 : nI (g_so g) = 4 ↔ g_so g = 4 := nI_eq (a := g_so g) (b := 4) (by omega) (by omega)
    by_cases h3 : g_so g = 3
    · rw [h3, show nI 3 = 3 from rfl] at g1
      simp [s148_0, s148_1, s148_4, s148_7, s148_8, s148_11, s148_12, s148_13, s148_14, s148_17, s148_18, s148_21, s148_22, s148_23, s148_24, s148_27, s148_28, s148_31, s148_32b0, s148_32b1, eq_self, ixk_some, bd_some, nl_n, nl_i, nl_r, Option.toList_some, Option.toList_none, List.cons_append, List.nil_append, FX_2 hx, FX_3 hx, FX_4 hx, FX_5 hx, FX_6 hx, FX_7 hx, FX_8 hx, FX_9 hx, FX_10 hx, FX_11 hx, FX_12 hx, FX_13 hx, FX_15 hx, FX_19 hx, FX_20 hx, FX_21 hx, FX_22 hx, FX_23 hx, FX_24 hx, FX_25 hx, FX_26 hx, FX_27 hx, FX_28 hx, FX_29 hx, FX_31 hx, FX_32 hx, FX_33 hx, FX_34 hx, FX_35 hx, FX_36 hx, FX_37 hx, FX_39 hx, FX_40 hx, c1, n0, ii, g1, h0, h3, b2]
    · by_cases h4 : g_so g = 4
      · have n3 : ¬ (4 : Int32) = 3 := by decide
        rw [h4, show nI 4 = 4 from rfl] at g1
        simp [s148_0, s148_1, s148_4, s148_7, s148_8, s148_11, s148_12, s148_13, s148_14, s148_17, s148_18, s148_21, s148_22, s148_23, s148_24, s148_27, s148_28, s148_31, s148_32b0, s148_32b1, eq_self, ixk_some, bd_some, nl_n, nl_i, nl_r, Option.toList_some, Option.toList_none, List.cons_append, List.nil_append, FX_2 hx, FX_3 hx, FX_4 hx, FX_5 hx, FX_6 hx, FX_7 hx, FX_8 hx, FX_9 hx, FX_10 hx, FX_11 hx, FX_12 hx, FX_13 hx, FX_15 hx, FX_19 hx, FX_20 hx, FX_21 hx, FX_22 hx, FX_23 hx, FX_24 hx, FX_25 hx, FX_26 hx, FX_27 hx, FX_28 hx, FX_29 hx, FX_31 hx, FX_32 hx, FX_33 hx, FX_34 hx, FX_35 hx, FX_36 hx, FX_37 hx, FX_39 hx, FX_40 hx, c1, n0, ii, g1, n3, h0, h4, b2]
      · have n3 : ¬ nI (g_so g) = 3 := fun z => h3 (e3.mp z)
        have n4 : ¬ nI (g_so g) = 4 := fun z => h4 (e4.mp z)
        simp [s148_0, s148_1, s148_4, s148_7, s148_8, s148_11, s148_12, s148_13, s148_14, s148_17, s148_18, s148_21, s148_22, s148_23, s148_24, s148_27, s148_28, s148_31, s148_32b0, s148_32b1, eq_self, ixk_some, bd_some, nl_n, nl_i, nl_r, Option.toList_some, Option.toList_none, List.cons_append, List.nil_append, FX_2 hx, FX_3 hx, FX_4 hx, FX_5 hx, FX_6 hx, FX_7 hx, FX_8 hx, FX_9 hx, FX_10 hx, FX_11 hx, FX_12 hx, FX_13 hx, FX_15 hx, FX_19 hx, FX_20 hx, FX_21 hx, FX_22 hx, FX_23 hx, FX_24 hx, FX_25 hx, FX_26 hx, FX_27 hx, FX_28 hx, FX_29 hx, FX_31 hx, FX_32 hx, FX_33 hx, FX_34 hx, FX_35 hx, FX_36 hx, FX_37 hx, FX_39 hx, FX_40 hx, c1, n0, ii, g1, n3, n4, h0, h3, h4, b2]
theorem rrf_loop {s : ST} {m : MM} (hp : RRp s m) (h : RRm s m) (hc : RRc s m) (hg : ∀ g ∈ c_ms s, g_so g ≤ 10) : ∀ (r : List MSG) (i : Nat), (c_ms s).drop i = r → i ≤ (c_ms s).length → go 151 2 [some (vr 8 (some 0)), some (vi (nI i))] [] m = some (some (vi (enc (fiF (may s) r i))), m) := by
  intro r
  induction r with
  | nil => 
    intro i hi hle
    have : (c_ms s).length ≤ i := by
      have := congrArg List.length hi
      rw [List.length_drop] at this
      simp at this
      omega
    have k2 := h.2.1
    rw [s151_2]
    simp only [s151_3, s151_4, s151_7, eq_self, ixk_some, bd_some, nl_n, nl_i, nl_r, Option.toList_some, Option.toList_none, List.cons_append, List.nil_append, h.1]
    rw [if_pos (nI_le (by omega) (by omega))]
    simp only [s151_26, s151_28, eq_self, ixk_some, bd_some, nl_n, nl_i, nl_r, Option.toList_some, Option.toList_none, List.cons_append, List.nil_append, fiF]
    rfl
  | cons q r ih => 
    intro i hi hle
    have hlt : i < (c_ms s).length := by
      have := congrArg List.length hi
      rw [List.length_drop] at this
      simp at this
      omega
    have hq : (c_ms s)[i]? = some q := by
      have := congrArg List.head? hi
      rw [List.head?_drop] at this
      exact this
    have hr : (c_ms s).drop (i + 1) = r := by
      rw [← List.drop_drop, hi]
      rfl
    have s1 : nI i + 1 = nI (i + 1) := nI_1 i
    have mm := rr_may hp h hc hq (hg q (List.mem_of_getElem? hq))
    have k2 := h.2.1
    rw [s151_2]
    simp only [s151_3, s151_4, s151_7, eq_self, ixk_some, bd_some, nl_n, nl_i, nl_r, Option.toList_some, Option.toList_none, List.cons_append, List.nil_append, h.1]
    rw [if_neg (nI_ge hlt (by omega))]
    simp only [s151_10, s151_11, s151_12, s151_15, eq_self, ixk_some, bd_some, nl_n, nl_i, nl_r, Option.toList_some, Option.toList_none, List.cons_append, List.nil_append, mm]
    unfold fiF
    cases hm : may s q
    · have := ih (i + 1) hr (by omega)
      simp [s151_20i, s151_20r, s151_20n, s151_23, eq_self, ixk_some, bd_some, nl_n, nl_i, nl_r, Option.toList_some, Option.toList_none, List.cons_append, List.nil_append, s1, this, b2]
    · simp [s151_18, s151_19, eq_self, ixk_some, bd_some, nl_n, nl_i, nl_r, Option.toList_some, Option.toList_none, List.cons_append, List.nil_append, b2]
      rfl
theorem rr_first {s : ST} {m : MM} (hp : RRp s m) (h : RRm s m) (hc : RRc s m) (hg : ∀ g ∈ c_ms s, g_so g ≤ 10) : go 151 0 [some (vr 8 (some 0)), none] [] m = some (some (vi (enc ((c_ms s).findIdx? (may s)))), m) := by
  have := rrf_loop hp h hc hg (c_ms s) 0 (by simp) (Nat.zero_le _)
  rw [fiF_idx] at this
  have e : ((c_ms s).findIdx? (may s)).map (· + 0) = (c_ms s).findIdx? (may s) := by
    cases (c_ms s).findIdx? (may s) <;> rfl
  rw [e] at this
  rw [← this]
  simp only [s151_0, s151_1i, s151_1r, s151_1n, eq_self, ixk_some, bd_some, nl_n, nl_i, nl_r, Option.toList_some, Option.toList_none, List.cons_append, List.nil_append]
  rfl
