/-! the reference: store, placeOf -/
def QB (p : Nat) : Nat → Nat → Prop := fun r k => (r = 28 ∧ k = p) ∨ ((r = 29 ∨ r = 30) ∧ 16 * p ≤ k ∧ k < 16 * p + 16)
theorem st_l1 {m : MM} {p : Nat} {L : PRS} {key : Int32} {v : Int64} (hx : FX m) (hn : FN m) (hp : p < 32) (h : RRl m p L) : ∀ (r : PRS) (i : Nat), L.drop i = r → i ≤ L.length →
    go 115 3 [some (vr 8 (some 0)), some (vi (nI p)), some (vi key), some (vl v), none, some (vi (nI i)), none] [] m = go 115 36 [some (vr 8 (some 0)), some (vi (nI p)), some (vi key), some (vl v), none, some (vi (nI (i + bl key r))), none] [] m := by
  obtain ⟨k1, k2, k3⟩ := h
  have i28 := ixN (FN_28 hn) (i := p) hp (by decide)
  intro r
  induction r with
  | nil => 
    intro i hi hle
    have : L.length ≤ i := by
      have := congrArg List.length hi
      rw [List.length_drop] at this
      simp at this
      omega
    rw [s115_3]
    simp only [s115_5, s115_6, s115_9, s115_10, s115_11, eq_self, ixk_some, bd_some, nl_n, nl_i, nl_r, Option.toList_some, Option.toList_none, List.cons_append, List.nil_append, FX_2 hx, FX_3 hx, FX_4 hx, FX_5 hx, FX_6 hx, FX_7 hx, FX_8 hx, FX_9 hx, FX_10 hx, FX_11 hx, FX_12 hx, FX_13 hx, FX_15 hx, FX_19 hx, FX_20 hx, FX_21 hx, FX_22 hx, FX_23 hx, FX_24 hx, FX_25 hx, FX_26 hx, FX_27 hx, FX_28 hx, FX_29 hx, FX_31 hx, FX_32 hx, FX_33 hx, FX_34 hx, FX_35 hx, FX_36 hx, FX_37 hx, FX_39 hx, FX_40 hx, i28, k2]
    rw [if_pos (nI_le (by omega) (by omega))]
    rfl
  | cons q r ih => 
    intro i hi hle
    have hlt : i < L.length := by
      have := congrArg List.length hi
      rw [List.length_drop] at this
      simp at this
      omega
    have hq : L[i]? = some q := by
      have := congrArg List.head? hi
      rw [List.head?_drop] at this
      exact this
    have hr : L.drop (i + 1) = r := by
      rw [← List.drop_drop, hi]
      rfl
    have i29 := ixN (FN_29 hn) (i := 16 * p + i) (by omega) (by decide)
    have g := (k3 i q hq).1
    have s1 : nI i + 1 = nI (i + 1) := nI_1 i
    rw [s115_3]
    simp only [s115_5, s115_6, s115_9, s115_10, s115_11, eq_self, ixk_some, bd_some, nl_n, nl_i, nl_r, Option.toList_some, Option.toList_none, List.cons_append, List.nil_append, FX_2 hx, FX_3 hx, FX_4 hx, FX_5 hx, FX_6 hx, FX_7 hx, FX_8 hx, FX_9 hx, FX_10 hx, FX_11 hx, FX_12 hx, FX_13 hx, FX_15 hx, FX_19 hx, FX_20 hx, FX_21 hx, FX_22 hx, FX_23 hx, FX_24 hx, FX_25 hx, FX_26 hx, FX_27 hx, FX_28 hx, FX_29 hx, FX_31 hx, FX_32 hx, FX_33 hx, FX_34 hx, FX_35 hx, FX_36 hx, FX_37 hx, FX_39 hx, FX_40 hx, i28, k2]
    rw [if_neg (nI_ge hlt (by omega))]
    simp only [s115_14, s115_15, s115_18, s115_20, s115_21, s115_22, s115_24, s115_25, s115_26, s115_27, eq_self, ixk_some, bd_some, nl_n, nl_i, nl_r, Option.toList_some, Option.toList_none, List.cons_append, List.nil_append, FX_2 hx, FX_3 hx, FX_4 hx, FX_5 hx, FX_6 hx, FX_7 hx, FX_8 hx, FX_9 hx, FX_10 hx, FX_11 hx, FX_12 hx, FX_13 hx, FX_15 hx, FX_19 hx, FX_20 hx, FX_21 hx, FX_22 hx, FX_23 hx, FX_24 hx, FX_25 hx, FX_26 hx, FX_27 hx, FX_28 hx, FX_29 hx, FX_31 hx, FX_32 hx, FX_33 hx, FX_34 hx, FX_35 hx, FX_36 hx, FX_37 hx, FX_39 hx, FX_40 hx, fl16, i29, g]
    by_cases hk : q.1 < key
    · rw [if_neg (i_nle.mpr hk)]
      simp only [s115_30i, s115_30r, s115_30n, s115_33, eq_self, ixk_some, bd_some, nl_n, nl_i, nl_r, Option.toList_some, Option.toList_none, List.cons_append, List.nil_append, s1]
      rw [ih (i + 1) hr (by omega)]
      simp only [bl, if_pos hk]
      rw [show i + 1 + bl key r = i + (1 + bl key r) by omega]
    · rw [if_pos (i_nlt.mp hk)]
      simp only [bl, if_neg hk]
      rfl
def rsM (m : MM) (p a : Nat) : Nat → MM
  | 0 => m
  | d + 1 => rsM (sL (sI m 29 0 (16 * p + (a + (d + 1))) (mI m 29 0 (16 * p + (a + d)))) 30 0 (16 * p + (a + (d + 1))) (mL m 30 0 (16 * p + (a + d)))) p a d
theorem rsM_get (p a : Nat) : ∀ d (m : MM), (∀ r n k, mI (rsM m p a d) r n k = if r = 29 ∧ n = 0 ∧ 16 * p + a < k ∧ k ≤ 16 * p + a + d then mI m 29 0 (k - 1) else mI m r n k) ∧ (∀ r n k, mL (rsM m p a d) r n k = if r = 30 ∧ n = 0 ∧ 16 * p + a < k ∧ k ≤ 16 * p + a + d then mL m 30 0 (k - 1) else mL m r n k) ∧ mR (rsM m p a d) = mR m ∧ mC (rsM m p a d) = mC m ∧ mN (rsM m p a d) = mN m ∧ mT (rsM m p a d) = mT m ∧ mS (rsM m p a d) = mS m
  | 0, m => ⟨fun r n k => by rw [if_neg (by omega)]; rfl, fun r n k => by rw [if_neg (by omega)]; rfl, rfl, rfl, rfl, rfl, rfl⟩
  | d + 1, m => by
    obtain ⟨h1, h2, h3, h4, h5, h6, h7⟩ := rsM_get p a d (sL (sI m 29 0 (16 * p + (a + (d + 1))) (mI m 29 0 (16 * p + (a + d)))) 30 0 (16 * p + (a + (d + 1))) (mL m 30 0 (16 * p + (a + d))))
    refine ⟨fun r n k => ?_, fun r n k => ?_, h3, h4, h5, h6, h7⟩
    · show mI (rsM _ p a d) r n k = _
      rw [h1, mI_sL, mI_sL, mI_sI, mI_sI]
      by_cases c1 : r = 29 ∧ n = 0 ∧ 16 * p + a < k ∧ k ≤ 16 * p + a + d
      · rw [if_pos c1, if_neg (by omega), if_pos (by omega)]
      · rw [if_neg c1]
        by_cases c2 : r = 29 ∧ n = 0 ∧ k = 16 * p + (a + (d + 1))
        · rw [if_pos c2, if_pos (by omega)]
          rw [show k - 1 = 16 * p + (a + d) by omega]
        · rw [if_neg c2, if_neg (by omega)]
    · show mL (rsM _ p a d) r n k = _
      rw [h2, mL_sL, mL_sL, mL_sI, mL_sI]
      by_cases c1 : r = 30 ∧ n = 0 ∧ 16 * p + a < k ∧ k ≤ 16 * p + a + d
      · rw [if_pos c1, if_neg (by omega), if_pos (by omega)]
      · rw [if_neg c1]
        by_cases c2 : r = 30 ∧ n = 0 ∧ k = 16 * p + (a + (d + 1))
        · rw [if_pos c2, if_pos (by omega)]
          rw [show k - 1 = 16 * p + (a + d) by omega]
        · rw [if_neg c2, if_neg (by omega)]
theorem st_l2 {p a : Nat} {key : Int32} {v : Int64} (hp : p < 32) : ∀ d (m : MM), FX m → FN m → a + d < 16 →
    go 115 71 [some (vr 8 (some 0)), some (vi (nI p)), some (vi key), some (vl v), none, some (vi (nI a)), some (vi (nI (a + d)))] [] m = go 115 136 [some (vr 8 (some 0)), some (vi (nI p)), some (vi key), some (vl v), none, some (vi (nI a)), some (vi (nI a))] [] (rsM m p a d) := by
  intro d
  induction d with
  | zero => 
    intro m hx hn h5
    rw [s115_71]
    simp only [s115_73, s115_75, eq_self, ixk_some, bd_some, nl_n, nl_i, nl_r, Option.toList_some, Option.toList_none, List.cons_append, List.nil_append]
    rw [if_pos (nI_le (by omega) (by omega))]
    rfl
  | succ d ih => 
    intro m hx hn h5
    have e1 : nI (16 * p + (a + (d + 1))) - 1 = nI (16 * p + (a + d)) := nI_pred (16 * p + (a + d))
    have e2 : nI (a + (d + 1)) + (-1) = nI (a + d) := pk_m1 (a + d)
    have i1 := ixN (FN_29 hn) (i := 16 * p + (a + (d + 1))) (by omega) (by decide)
    have i2 := ixN (FN_29 hn) (i := 16 * p + (a + d)) (by omega) (by decide)
    have i3 := ixN (FN_30 hn) (i := 16 * p + (a + (d + 1))) (by omega) (by decide)
    have i4 := ixN (FN_30 hn) (i := 16 * p + (a + d)) (by omega) (by decide)
    rw [s115_71]
    simp only [s115_0, s115_1i, s115_1r, s115_1n, s115_5, s115_6, s115_9, s115_10, s115_11, s115_14, s115_15, s115_18, s115_20, s115_21, s115_22, s115_24, s115_25, s115_26, s115_27, s115_30i, s115_30r, s115_30n, s115_33, s115_38, s115_39, s115_42, s115_43, s115_44, s115_47, s115_48, s115_51, s115_53, s115_54, s115_55, s115_57, s115_58, s115_59, s115_60, s115_63, s115_64, s115_67, s115_68, s115_69i, s115_69r, s115_69n, s115_73, s115_75, s115_78, s115_79, s115_82, s115_84, s115_85, s115_86, s115_88, s115_89, s115_90, s115_93, s115_95, s115_96, s115_97, s115_99, s115_100, s115_101, s115_102, s115_103, s115_104, s115_105, s115_108, s115_110, s115_111, s115_112, s115_114, s115_115, s115_116, s115_119, s115_121, s115_122, s115_123, s115_125, s115_126, s115_127, s115_128, s115_129, s115_130i, s115_130r, s115_130n, s115_133, s115_137, s115_140, s115_141, s115_142, s115_143, s115_144, s115_145, s115_146, s115_147, s115_150, s115_152, s115_153, s115_154, s115_156, s115_157, s115_158, s115_159, s115_160, s115_163, s115_165, s115_166, s115_167, s115_169, s115_170, s115_171, s115_172, eq_self, ixk_some, bd_some, nl_n, nl_i, nl_r, Option.toList_some, Option.toList_none, List.cons_append, List.nil_append, FX_2 hx, FX_3 hx, FX_4 hx, FX_5 hx, FX_6 hx, FX_7 hx, FX_8 hx, FX_9 hx, FX_10 hx, FX_11 hx, FX_12 hx, FX_13 hx, FX_15 hx, FX_19 hx, FX_20 hx, FX_21 hx, FX_22 hx, FX_23 hx, FX_24 hx, FX_25 hx, FX_26 hx, FX_27 hx, FX_28 hx, FX_29 hx, FX_31 hx, FX_32 hx, FX_33 hx, FX_34 hx, FX_35 hx, FX_36 hx, FX_37 hx, FX_39 hx, FX_40 hx, fl16, e1, e2, i1, i2, i3, i4, mN_sI, mN_sL, mR_sI, mR_sL, mI_sI, mL_sI]
    rw [if_neg (nI_ge (by omega) (by omega))]
    exact ih _ hx hn (by omega)
theorem rr_store {m : MM} {p : Nat} {L : PRS} {key : Int32} {v : Int64} (hx : FX m) (hn : FN m) (hp : p < 32) (h : RRl m p L) (hl : (ins L key v).length ≤ 16) :
    ∃ m', go 115 0 [some (vr 8 (some 0)), some (vi (nI p)), some (vi key), some (vl v), none, none, none] [] m = some (none, m') ∧ RRl m' p (ins L key v) ∧ fs (QB p) m m' := by
  have L1 := st_l1 (key := key) (v := v) hx hn hp h L 0 (by simp) (Nat.zero_le _)
  rw [Nat.zero_add] at L1
  have hble := bl_le key L
  obtain ⟨k1, k2, k3⟩ := h
  have i28 := ixN (FN_28 hn) (i := p) hp (by decide)
  have base : ∀ r, go 115 36 [some (vr 8 (some 0)), some (vi (nI p)), some (vi key), some (vl v), none, some (vi (nI (bl key L))), none] [] m = r → go 115 0 [some (vr 8 (some 0)), some (vi (nI p)), some (vi key), some (vl v), none, none, none] [] m = r := by
    intro r hr
    rw [← hr, ← L1]
    simp only [s115_0, s115_1i, s115_1r, s115_1n, eq_self, ixk_some, bd_some, nl_n, nl_i, nl_r, Option.toList_some, Option.toList_none, List.cons_append, List.nil_append]
    rfl
  by_cases hk : (L[bl key L]?).map Prod.fst = some key
  · obtain ⟨j1, j2⟩ := ins_rep (v := v) L hk
    rcases bl_get (key := key) (L := L) with ⟨g1, q, g2⟩ | ⟨g1, g2⟩
    · rw [g2] at hk
      have hq : q.1 = key := by simpa using hk
      have i29 := ixN (FN_29 hn) (i := 16 * p + bl key L) (by omega) (by decide)
      have i30 := ixN (FN_30 hn) (i := 16 * p + bl key L) (by omega) (by decide)
      have ne : ¬ nI (bl key L) = nI L.length := fun z => by
        have := (nI_eq (by omega) (by omega)).mp z
        omega
      refine ⟨sL (sI m 29 0 (16 * p + bl key L) key) 30 0 (16 * p + bl key L) v, base _ ?_, ⟨by omega, by rw [j1]; exact k2, fun j x hj => ?_⟩, fsL (fsI (fs_rf _ m) (Or.inr ⟨Or.inl rfl, by omega, by omega⟩)) (Or.inr ⟨Or.inr rfl, by omega, by omega⟩)⟩
      · simp [s115_0, s115_1i, s115_1r, s115_1n, s115_5, s115_6, s115_9, s115_10, s115_11, s115_14, s115_15, s115_18, s115_20, s115_21, s115_22, s115_24, s115_25, s115_26, s115_27, s115_30i, s115_30r, s115_30n, s115_33, s115_36, s115_38, s115_39, s115_42, s115_43, s115_44, s115_47, s115_48, s115_51, s115_53, s115_54, s115_55, s115_57, s115_58, s115_59, s115_60, s115_63, s115_64, s115_67, s115_68, s115_69i, s115_69r, s115_69n, s115_73, s115_75, s115_78, s115_79, s115_82, s115_84, s115_85, s115_86, s115_88, s115_89, s115_90, s115_93, s115_95, s115_96, s115_97, s115_99, s115_100, s115_101, s115_102, s115_103, s115_104, s115_105, s115_108, s115_110, s115_111, s115_112, s115_114, s115_115, s115_116, s115_119, s115_121, s115_122, s115_123, s115_125, s115_126, s115_127, s115_128, s115_129, s115_130i, s115_130r, s115_130n, s115_133, s115_136, s115_137, s115_140, s115_141, s115_142, s115_143, s115_144, s115_145, s115_146, s115_147, s115_150, s115_152, s115_153, s115_154, s115_156, s115_157, s115_158, s115_159, s115_160, s115_163, s115_165, s115_166, s115_167, s115_169, s115_170, s115_171, s115_172, eq_self, ixk_some, bd_some, nl_n, nl_i, nl_r, Option.toList_some, Option.toList_none, List.cons_append, List.nil_append, mR_sI, mN_sI, FX_2 hx, FX_3 hx, FX_4 hx, FX_5 hx, FX_6 hx, FX_7 hx, FX_8 hx, FX_9 hx, FX_10 hx, FX_11 hx, FX_12 hx, FX_13 hx, FX_15 hx, FX_19 hx, FX_20 hx, FX_21 hx, FX_22 hx, FX_23 hx, FX_24 hx, FX_25 hx, FX_26 hx, FX_27 hx, FX_28 hx, FX_29 hx, FX_31 hx, FX_32 hx, FX_33 hx, FX_34 hx, FX_35 hx, FX_36 hx, FX_37 hx, FX_39 hx, FX_40 hx, i28, k2, ne, fl16, i29, (k3 _ q g2).1, hq, i30]
      · rw [j2 j] at hj
        rw [mI_sL, mL_sL, mI_sI, mL_sI]
        by_cases e : j = bl key L
        · rw [if_pos e] at hj
          cases hj
          rw [if_pos ⟨rfl, rfl, by omega⟩, if_pos ⟨rfl, rfl, by omega⟩]
          exact ⟨rfl, rfl⟩
        · rw [if_neg e] at hj
          rw [if_neg (by omega), if_neg (by omega)]
          exact k3 j x hj
    · rw [g2] at hk; simp at hk
  · obtain ⟨j1, j2⟩ := ins_new (v := v) L hk
    have hlt : L.length < 16 := by omega
    obtain ⟨d, hd⟩ : ∃ d, bl key L + d = L.length := ⟨L.length - bl key L, by omega⟩
    have hloop := st_l2 (p := p) (a := bl key L) (key := key) (v := v) hp d m hx hn (by omega)
    rw [hd] at hloop
    have start : go 115 36 [some (vr 8 (some 0)), some (vi (nI p)), some (vi key), some (vl v), none, some (vi (nI (bl key L))), none] [] m = go 115 71 [some (vr 8 (some 0)), some (vi (nI p)), some (vi key), some (vl v), none, some (vi (nI (bl key L))), some (vi (nI L.length))] [] m := by
      rcases bl_get (key := key) (L := L) with ⟨g1, q, g2⟩ | ⟨g1, g2⟩
      · rw [g2] at hk
        have hq : ¬ q.1 = key := by simpa using hk
        have i29 := ixN (FN_29 hn) (i := 16 * p + bl key L) (by omega) (by decide)
        have ne : ¬ nI (bl key L) = nI L.length := fun z => by
          have := (nI_eq (by omega) (by omega)).mp z
          omega
        simp [s115_36, s115_38, s115_39, s115_42, s115_43, s115_44, s115_47, s115_48, s115_51, s115_53, s115_54, s115_55, s115_57, s115_58, s115_59, s115_60, s115_63, s115_64, s115_67, s115_68, s115_69i, s115_69r, s115_69n, eq_self, ixk_some, bd_some, nl_n, nl_i, nl_r, Option.toList_some, Option.toList_none, List.cons_append, List.nil_append, FX_2 hx, FX_3 hx, FX_4 hx, FX_5 hx, FX_6 hx, FX_7 hx, FX_8 hx, FX_9 hx, FX_10 hx, FX_11 hx, FX_12 hx, FX_13 hx, FX_15 hx, FX_19 hx, FX_20 hx, FX_21 hx, FX_22 hx, FX_23 hx, FX_24 hx, FX_25 hx, FX_26 hx, FX_27 hx, FX_28 hx, FX_29 hx, FX_31 hx, FX_32 hx, FX_33 hx, FX_34 hx, FX_35 hx, FX_36 hx, FX_37 hx, FX_39 hx, FX_40 hx, i28, k2, ne, fl16, i29, (k3 _ q g2).1, hq]
      · simp [s115_36, s115_38, s115_39, s115_42, s115_43, s115_44, s115_63, s115_64, s115_67, s115_68, s115_69i, s115_69r, s115_69n, eq_self, ixk_some, bd_some, nl_n, nl_i, nl_r, Option.toList_some, Option.toList_none, List.cons_append, List.nil_append, FX_2 hx, FX_3 hx, FX_4 hx, FX_5 hx, FX_6 hx, FX_7 hx, FX_8 hx, FX_9 hx, FX_10 hx, FX_11 hx, FX_12 hx, FX_13 hx, FX_15 hx, FX_19 hx, FX_20 hx, FX_21 hx, FX_22 hx, FX_23 hx, FX_24 hx, FX_25 hx, FX_26 hx, FX_27 hx, FX_28 hx, FX_29 hx, FX_31 hx, FX_32 hx, FX_33 hx, FX_34 hx, FX_35 hx, FX_36 hx, FX_37 hx, FX_39 hx, FX_40 hx, i28, k2, g1]
    obtain ⟨s1, s2, s3, s4, s5, s6, s7⟩ := rsM_get p (bl key L) d m
    have i29 := ixN (FN_29 hn) (i := 16 * p + bl key L) (by omega) (by decide)
    have i30 := ixN (FN_30 hn) (i := 16 * p + bl key L) (by omega) (by decide)
    have e28 : mI (rsM m p (bl key L) d) 28 0 p = nI L.length := by rw [s1, if_neg (by omega)]; exact k2
    have sl : nI L.length + 1 = nI (L.length + 1) := nI_1 _
    refine ⟨sL (sI (sI (rsM m p (bl key L) d) 28 0 p (nI (L.length + 1))) 29 0 (16 * p + bl key L) key) 30 0 (16 * p + bl key L) v, base _ ?_, ⟨hl, ?_, fun j x hj => ?_⟩, ?_⟩
    · rw [start, hloop]
      simp only [s115_0, s115_1i, s115_1r, s115_1n, s115_5, s115_6, s115_9, s115_10, s115_11, s115_14, s115_15, s115_18, s115_20, s115_21, s115_22, s115_24, s115_25, s115_26, s115_27, s115_30i, s115_30r, s115_30n, s115_33, s115_36, s115_38, s115_39, s115_42, s115_43, s115_44, s115_47, s115_48, s115_51, s115_53, s115_54, s115_55, s115_57, s115_58, s115_59, s115_60, s115_63, s115_64, s115_67, s115_68, s115_69i, s115_69r, s115_69n, s115_73, s115_75, s115_78, s115_79, s115_82, s115_84, s115_85, s115_86, s115_88, s115_89, s115_90, s115_93, s115_95, s115_96, s115_97, s115_99, s115_100, s115_101, s115_102, s115_103, s115_104, s115_105, s115_108, s115_110, s115_111, s115_112, s115_114, s115_115, s115_116, s115_119, s115_121, s115_122, s115_123, s115_125, s115_126, s115_127, s115_128, s115_129, s115_130i, s115_130r, s115_130n, s115_133, s115_136, s115_137, s115_140, s115_141, s115_142, s115_143, s115_144, s115_145, s115_146, s115_147, s115_150, s115_152, s115_153, s115_154, s115_156, s115_157, s115_158, s115_159, s115_160, s115_163, s115_165, s115_166, s115_167, s115_169, s115_170, s115_171, s115_172, eq_self, ixk_some, bd_some, nl_n, nl_i, nl_r, Option.toList_some, Option.toList_none, List.cons_append, List.nil_append, mR_sI, mN_sI, s3, s5, FX_2 hx, FX_3 hx, FX_4 hx, FX_5 hx, FX_6 hx, FX_7 hx, FX_8 hx, FX_9 hx, FX_10 hx, FX_11 hx, FX_12 hx, FX_13 hx, FX_15 hx, FX_19 hx, FX_20 hx, FX_21 hx, FX_22 hx, FX_23 hx, FX_24 hx, FX_25 hx, FX_26 hx, FX_27 hx, FX_28 hx, FX_29 hx, FX_31 hx, FX_32 hx, FX_33 hx, FX_34 hx, FX_35 hx, FX_36 hx, FX_37 hx, FX_39 hx, FX_40 hx, i28, e28, sl, fl16, i29, i30]
    · rw [mI_sL, mI_ne (by omega), mI_sI, if_pos ⟨rfl, rfl, rfl⟩, j1]
    · rw [j2 j] at hj
      rw [mI_sL, mL_sL, mI_sI, mL_sI, mI_sI, mL_sI, s1, s2]
      by_cases e1 : j < bl key L
      · rw [if_pos e1] at hj
        rw [if_neg (by omega), if_neg (by omega), if_neg (by omega), if_neg (by omega), if_neg (by omega)]
        exact k3 j x hj
      · rw [if_neg e1] at hj
        by_cases e : j = bl key L
        · rw [if_pos e] at hj
          cases hj
          rw [if_pos ⟨rfl, rfl, by omega⟩, if_pos ⟨rfl, rfl, by omega⟩]
          exact ⟨rfl, rfl⟩
        · rw [if_neg e] at hj
          have hj2 := (List.getElem?_eq_some_iff.mp hj).1
          rw [if_neg (by omega), if_neg (by omega), if_pos (by omega), if_neg (by omega), if_pos (by omega)]
          rw [show 16 * p + j - 1 = 16 * p + (j - 1) by omega]
          exact k3 (j - 1) x hj
    · have F : fs (QB p) m (rsM m p (bl key L) d) := ⟨fun r n k z => ⟨by rw [s1, if_neg (fun y => z (Or.inr ⟨Or.inl y.1, by omega, by omega⟩))], by rw [s2, if_neg (fun y => z (Or.inr ⟨Or.inr y.1, by omega, by omega⟩))]⟩, s3, s4, s5, s6, s7⟩
      exact fsL (fsI (fsI F (Or.inl ⟨rfl, rfl⟩)) (Or.inr ⟨Or.inl rfl, by omega, by omega⟩)) (Or.inr ⟨Or.inr rfl, by omega, by omega⟩)
theorem RRq_up {s : ST} {m m' : MM} {p : Nat} {A : PRS} (h : RRq s m) (hf : fs (QB p) m m') (h1 : RRl m' p A) : ∀ i, i < c_n s → RRl m' i (up1 (c_pr s) p A i) := by
  intro i hi
  by_cases e : i = p
  · subst e
    rw [up1_get]; exact h1
  · rw [show up1 (c_pr s) p A i = c_pr s i from if_neg e]
    obtain ⟨k1, k2, k3⟩ := h i hi
    have n : ∀ r k, ¬ QB p r k → mI m' r 0 k = mI m r 0 k ∧ mL m' r 0 k = mL m r 0 k := fun r k z => hf.1 r 0 k z
    refine ⟨k1, by rw [(n 28 i (fun z => by unfold QB at z; omega)).1]; exact k2, fun j q hj => ?_⟩
    have hj2 := (List.getElem?_eq_some_iff.mp hj).1
    rw [(n 29 _ (fun z => by unfold QB at z; omega)).1, (n 30 _ (fun z => by unfold QB at z; omega)).2]
    exact k3 j q hj
theorem pl_loop {m : MM} {p : Nat} {L : PRS} {key : Int32} (hx : FX m) (hn : FN m) (hp : p < 32) (h : RRl m p L) : ∀ (r : PRS) (i : Nat), L.drop i = r → i ≤ L.length →
    (fnd r key = none ∧ go 116 2 [some (vr 8 (some 0)), some (vi (nI p)), some (vi key), some (vi (nI i))] [] m = some (some (vi (-4)), m)) ∨ ∃ j v, j < L.length ∧ fnd r key = some v ∧ mL m 30 0 (16 * p + j) = v ∧ go 116 2 [some (vr 8 (some 0)), some (vi (nI p)), some (vi key), some (vi (nI i))] [] m = some (some (vi (nI (16 * p + j))), m) := by
  obtain ⟨k1, k2, k3⟩ := h
  have i28 := ixN (FN_28 hn) (i := p) hp (by decide)
  intro r
  induction r with
  | nil => 
    intro i hi hle
    have : L.length ≤ i := by
      have := congrArg List.length hi
      rw [List.length_drop] at this
      simp at this
      omega
    refine Or.inl ⟨rfl, ?_⟩
    rw [s116_2]
    simp only [s116_3, s116_4, s116_7, s116_8, s116_9, eq_self, ixk_some, bd_some, nl_n, nl_i, nl_r, Option.toList_some, Option.toList_none, List.cons_append, List.nil_append, FX_2 hx, FX_3 hx, FX_4 hx, FX_5 hx, FX_6 hx, FX_7 hx, FX_8 hx, FX_9 hx, FX_10 hx, FX_11 hx, FX_12 hx, FX_13 hx, FX_15 hx, FX_19 hx, FX_20 hx, FX_21 hx, FX_22 hx, FX_23 hx, FX_24 hx, FX_25 hx, FX_26 hx, FX_27 hx, FX_28 hx, FX_29 hx, FX_31 hx, FX_32 hx, FX_33 hx, FX_34 hx, FX_35 hx, FX_36 hx, FX_37 hx, FX_39 hx, FX_40 hx, i28, k2]
    rw [if_pos (nI_le (by omega) (by omega))]
    simp only [s116_40, s116_42, eq_self, ixk_some, bd_some, nl_n, nl_i, nl_r, Option.toList_some, Option.toList_none, List.cons_append, List.nil_append]
  | cons q r ih => 
    intro i hi hle
    have hlt : i < L.length := by
      have := congrArg List.length hi
      rw [List.length_drop] at this
      simp at this
      omega
    have hq : L[i]? = some q := by
      have := congrArg List.head? hi
      rw [List.head?_drop] at this
      exact this
    have hr : L.drop (i + 1) = r := by
      rw [← List.drop_drop, hi]
      rfl
    have i29 := ixN (FN_29 hn) (i := 16 * p + i) (by omega) (by decide)
    have g := k3 i q hq
    have s1 : nI i + 1 = nI (i + 1) := nI_1 i
    rw [s116_2]
    simp only [s116_3, s116_4, s116_7, s116_8, s116_9, eq_self, ixk_some, bd_some, nl_n, nl_i, nl_r, Option.toList_some, Option.toList_none, List.cons_append, List.nil_append, FX_2 hx, FX_3 hx, FX_4 hx, FX_5 hx, FX_6 hx, FX_7 hx, FX_8 hx, FX_9 hx, FX_10 hx, FX_11 hx, FX_12 hx, FX_13 hx, FX_15 hx, FX_19 hx, FX_20 hx, FX_21 hx, FX_22 hx, FX_23 hx, FX_24 hx, FX_25 hx, FX_26 hx, FX_27 hx, FX_28 hx, FX_29 hx, FX_31 hx, FX_32 hx, FX_33 hx, FX_34 hx, FX_35 hx, FX_36 hx, FX_37 hx, FX_39 hx, FX_40 hx, i28, k2]
    rw [if_neg (nI_ge hlt (by omega))]
    simp only [s116_12, s116_13, s116_16, s116_18, s116_19, s116_20, s116_21, s116_22, s116_23, s116_24, eq_self, ixk_some, bd_some, nl_n, nl_i, nl_r, Option.toList_some, Option.toList_none, List.cons_append, List.nil_append, FX_2 hx, FX_3 hx, FX_4 hx, FX_5 hx, FX_6 hx, FX_7 hx, FX_8 hx, FX_9 hx, FX_10 hx, FX_11 hx, FX_12 hx, FX_13 hx, FX_15 hx, FX_19 hx, FX_20 hx, FX_21 hx, FX_22 hx, FX_23 hx, FX_24 hx, FX_25 hx, FX_26 hx, FX_27 hx, FX_28 hx, FX_29 hx, FX_31 hx, FX_32 hx, FX_33 hx, FX_34 hx, FX_35 hx, FX_36 hx, FX_37 hx, FX_39 hx, FX_40 hx, fl16, i29, g.1]
    by_cases e : q.1 = key
    · rw [if_neg (fun z => z e)]
      refine Or.inr ⟨i, q.2, hlt, ?_, g.2, ?_⟩
      · show (if q.1 = key then some q.2 else fnd r key) = _
        rw [if_pos e]
      · simp only [s116_27, s116_29, s116_30, s116_31, s116_32, s116_33, eq_self, ixk_some, bd_some, nl_n, nl_i, nl_r, Option.toList_some, Option.toList_none, List.cons_append, List.nil_append, fl16]
    · rw [if_pos e]
      have ef : fnd (q :: r) key = fnd r key := by
        show (if q.1 = key then some q.2 else fnd r key) = _
        rw [if_neg e]
      simp only [s116_34i, s116_34r, s116_34n, s116_37, eq_self, ixk_some, bd_some, nl_n, nl_i, nl_r, Option.toList_some, Option.toList_none, List.cons_append, List.nil_append, s1, ef]
      exact ih (i + 1) hr (by omega)
