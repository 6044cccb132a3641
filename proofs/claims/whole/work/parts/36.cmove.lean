/-! the class: Pairs.moveTo -/
theorem RCl_fr {p q : Nat} {L : PRS} {m m' : MM} (h : RCl m p L) (hf : fr (QP q) m m') (hne : p ≠ q) : RCl m' p L := by
  obtain ⟨⟨h1, h2, h3, h4, h5, h6⟩, h7⟩ := h
  have nq : ∀ r, ¬ QP q r p := fun r z => hne z.2
  refine ⟨⟨by rw [(hf.1 5 p 0 (nq 5)).2.2]; exact h1, by rw [(hf.1 5 p 1 (nq 5)).2.2]; exact h2, by rw [(hf.1 5 p 2 (nq 5)).1]; exact h3, h4, by rw [hf.2.2.1]; exact h5, by rw [hf.2.2.1]; exact h6⟩, fun i x hx => ?_⟩
  rw [(hf.1 12 p i (nq 12)).1, (hf.1 13 p i (nq 13)).2.1]
  exact h7 i x hx
theorem ins_len (L : PRS) (key : Int32) (v : Int64) : L.length ≤ (ins L key v).length := by
  by_cases hk : (L[bl key L]?).map Prod.fst = some key
  · rw [(ins_rep (v := v) L hk).1]; exact Nat.le_refl _
  · rw [(ins_new (v := v) L hk).1]; omega
theorem inl1_len : ∀ (B M : PRS), M.length ≤ (inl1 M B).length
  | [], M => Nat.le_refl _
  | q :: B, M => Nat.le_trans (ins_len M q.1 q.2) (inl1_len B (ins M q.1 q.2))
theorem move1 {p q a b : Nat} {L : PRS} (hne : p ≠ q) (hb : b ≤ L.length) : ∀ (B : PRS) (i : Nat) (m : MM) (M : PRS), (L.drop i).take (b - i) = B → i ≤ b → RCl m p L → RCl m q M → (inl1 M B).length ≤ 16 →
    ∃ m', go 21 21 [some (vr 5 (some p)), some (vr 5 (some q)), some (vi (nI a)), some (vi (nI b)), some (vi (nI i))] [] m = go 21 51 [some (vr 5 (some p)), some (vr 5 (some q)), some (vi (nI a)), some (vi (nI b)), some (vi (nI b))] [] m' ∧ RCl m' p L ∧ RCl m' q (inl1 M B) ∧ fr (QP q) m m' := by
  intro B
  induction B with
  | nil =>
    intro i m M hB hi hp hq hl
    have h4 := hp.1.2.2.2.1
    have hib : i = b := by
      have h9 := congrArg List.length hB
      simp at h9; omega
    subst hib
    refine ⟨m, ?_, hp, hq, fr_rf _ _⟩
    rw [s21_21]
    simp only [s21_23, s21_24, eq_self, ixk_some, bd_some, nl_n, nl_i, nl_r, Option.toList_some, Option.toList_none, List.cons_append, List.nil_append]
    rw [if_pos (nI_le (by omega) (by omega))]
  | cons x B ih =>
    intro i m M hB hi hp hq hl
    have h4 := hp.1.2.2.2.1
    have hlt : i < b := by
      have h9 := congrArg List.length hB
      simp at h9; omega
    have hgi : L[i]? = some x := by
      have h9 : ((L.drop i).take (b - i))[0]? = some x := by rw [hB]; rfl
      rw [List.getElem?_take] at h9
      simpa [show 0 < b - i by omega] using h9
    have hr : (L.drop (i + 1)).take (b - (i + 1)) = B := by
      have h9 : ((L.drop i).take (b - i)).drop 1 = B := by rw [hB]; rfl
      rw [List.drop_take, List.drop_drop] at h9
      rw [show b - (i + 1) = b - i - 1 by omega, ← h9]
    obtain ⟨⟨h1, h2, h3, h4', h5, h6⟩, h7⟩ := hp
    have hl2 : (ins M x.1 x.2).length ≤ 16 := Nat.le_trans (inl1_len B (ins M x.1 x.2)) hl
    obtain ⟨m1, e1, e2, e3⟩ := go_set (key := x.1) (v := x.2) hq hl2
    have hix := ix_nI (i := i) (n := mN m 12 p) (by rw [h5]; omega) (by rw [h5]; decide)
    have hix2 := ix_nI (i := i) (n := mN m 13 p) (by rw [h6]; omega) (by rw [h6]; decide)
    have hp1 := RCl_fr ⟨⟨h1, h2, h3, h4', h5, h6⟩, h7⟩ e3 hne
    obtain ⟨m', f1, f2, f3, f4⟩ := ih (i + 1) m1 (ins M x.1 x.2) hr (by omega) hp1 e2 hl
    refine ⟨m', ?_, f2, f3, fr_tr e3 f4⟩
    rw [s21_21]
    simp only [s21_23, s21_24, s21_27, s21_28, s21_29, s21_32, s21_34, s21_35, s21_36, s21_39, s21_41, s21_42, s21_45i, s21_45r, s21_45n, s21_48, eq_self, ixk_some, bd_some, nl_n, nl_i, nl_r, Option.toList_some, Option.toList_none, List.cons_append, List.nil_append, h1, h2, hix, hix2, (h7 i x hgi).1, (h7 i x hgi).2, e1]
    rw [if_neg (nI_ge hlt (by omega)), nI_1]
    exact f1
def dnM (m : MM) (p a b : Nat) : Nat → Nat → MM
  | 0, _ => m
  | d + 1, i => dnM (sL (sI m 12 p (a + i - b) (mI m 12 p i)) 13 p (a + i - b) (mL m 13 p i)) p a b d (i + 1)
theorem dnM_get (p a b : Nat) (hab : a < b) : ∀ d i (m : MM), b ≤ i → (∀ r n k, mI (dnM m p a b d i) r n k = if r = 12 ∧ n = p ∧ a + i - b ≤ k ∧ k < a + i - b + d then mI m 12 p (k + b - a) else mI m r n k) ∧ (∀ r n k, mL (dnM m p a b d i) r n k = if r = 13 ∧ n = p ∧ a + i - b ≤ k ∧ k < a + i - b + d then mL m 13 p (k + b - a) else mL m r n k) ∧ mR (dnM m p a b d i) = mR m ∧ mC (dnM m p a b d i) = mC m ∧ mN (dnM m p a b d i) = mN m ∧ mT (dnM m p a b d i) = mT m ∧ mS (dnM m p a b d i) = mS m
  | 0, i, m, _ => ⟨fun r n k => by rw [if_neg (by omega)]; rfl, fun r n k => by rw [if_neg (by omega)]; rfl, rfl, rfl, rfl, rfl, rfl⟩
  | d + 1, i, m, hi => by
    obtain ⟨g1, g2, g3, g4, g5, g6, g7⟩ := dnM_get p a b hab d (i + 1) (sL (sI m 12 p (a + i - b) (mI m 12 p i)) 13 p (a + i - b) (mL m 13 p i)) (by omega)
    refine ⟨fun r n k => ?_, fun r n k => ?_, g3, g4, g5, g6, g7⟩
    · show mI (dnM _ p a b d (i + 1)) r n k = _
      rw [g1]
      simp only [mI_sL, mI_sI]
      by_cases h1 : r = 12 ∧ n = p
      · obtain ⟨rfl, rfl⟩ := h1
        by_cases h2 : a + (i + 1) - b ≤ k ∧ k < a + (i + 1) - b + d
        · rw [if_pos ⟨rfl, rfl, h2⟩, if_neg (by omega), if_pos ⟨rfl, rfl, by omega⟩]
        · rw [if_neg (fun z => h2 z.2.2)]
          by_cases h3 : k = a + i - b
          · rw [if_pos ⟨rfl, rfl, h3⟩, if_pos ⟨rfl, rfl, by omega⟩, h3, show a + i - b + b - a = i by omega]
          · rw [if_neg (fun z => h3 z.2.2), if_neg (fun z => by omega)]
      · rw [if_neg (fun z => h1 ⟨z.1, z.2.1⟩), if_neg (fun z => h1 ⟨z.1, z.2.1⟩), if_neg (fun z => h1 ⟨z.1, z.2.1⟩)]
    · show mL (dnM _ p a b d (i + 1)) r n k = _
      rw [g2]
      simp only [mL_sL, mL_sI]
      by_cases h1 : r = 13 ∧ n = p
      · obtain ⟨rfl, rfl⟩ := h1
        by_cases h2 : a + (i + 1) - b ≤ k ∧ k < a + (i + 1) - b + d
        · rw [if_pos ⟨rfl, rfl, h2⟩, if_neg (by omega), if_pos ⟨rfl, rfl, by omega⟩]
        · rw [if_neg (fun z => h2 z.2.2)]
          by_cases h3 : k = a + i - b
          · rw [if_pos ⟨rfl, rfl, h3⟩, if_pos ⟨rfl, rfl, by omega⟩, h3, show a + i - b + b - a = i by omega]
          · rw [if_neg (fun z => h3 z.2.2), if_neg (fun z => by omega)]
      · rw [if_neg (fun z => h1 ⟨z.1, z.2.1⟩), if_neg (fun z => h1 ⟨z.1, z.2.1⟩), if_neg (fun z => h1 ⟨z.1, z.2.1⟩)]
theorem move2 {p a b n : Nat} {q : Nat × Option Nat} (hab : a < b) (hn : n ≤ 16) : ∀ d i (m : MM), i + d = n → b ≤ i → mN m 12 p = 16 → mN m 13 p = 16 → mR m 5 p 0 = some p → mR m 5 p 1 = some p → mI m 5 p 2 = nI n →
    go 21 54 [some (vr 5 (some p)), some (.inr (.inr q)), some (vi (nI a)), some (vi (nI b)), some (vi (nI i))] [] m = go 21 105 [some (vr 5 (some p)), some (.inr (.inr q)), some (vi (nI a)), some (vi (nI b)), some (vi (nI n))] [] (dnM m p a b d i) := by
  intro d
  induction d with
  | zero =>
    intro i m hi hb h1 h2 h3 h4 h5
    have hin : i = n := by omega
    subst hin
    rw [s21_54]
    simp only [s21_56, s21_57, s21_60, eq_self, ixk_some, bd_some, nl_n, nl_i, nl_r, Option.toList_some, Option.toList_none, List.cons_append, List.nil_append, h5]
    rw [if_pos (nI_le (by omega) (by omega))]
    rfl
  | succ d ih =>
    intro i m hi hb h1 h2 h3 h4 h5
    have e1 : nI a + nI i - nI b = nI (a + i - b) := by rw [nI_add, pk_sub (by omega)]
    have ix1 := ix_nI (i := i) (n := 16) (by omega) (by decide)
    have ix2 := ix_nI (i := a + i - b) (n := 16) (by omega) (by decide)
    rw [s21_54]
    simp only [s21_56, s21_57, s21_60, s21_63, s21_64, s21_67, s21_68, s21_70, s21_71, s21_72, s21_73, s21_74, s21_77, s21_79, s21_80, s21_81, s21_82, s21_85, s21_86, s21_88, s21_89, s21_90, s21_91, s21_92, s21_95, s21_97, s21_98, s21_99i, s21_99r, s21_99n, s21_102, eq_self, ixk_some, bd_some, nl_n, nl_i, nl_r, Option.toList_some, Option.toList_none, List.cons_append, List.nil_append, h1, h2, h3, h4, h5, e1, ix1, ix2, mN_sI, mN_sL, mR_sI, mR_sL, mI_sI, mL_sI]
    rw [if_neg (nI_ge (by omega) (by omega)), nI_1]
    refine ih (i + 1) _ (by omega) (by omega) h1 h2 h3 h4 ?_
    rw [mI_sL, mI_sI, if_neg (by omega)]
    exact h5
theorem go_moveTo {m : MM} {p q a b : Nat} {L M : PRS} (hne : p ≠ q) (hp : RCl m p L) (hq : RCl m q M) (hab : a ≤ b) (hb : b ≤ L.length) (hl : (inl1 M ((L.drop a).take (b - a))).length ≤ 16) :
    ∃ m', go 21 0 [some (vr 5 (some p)), some (vr 5 (some q)), some (vi (nI a)), some (vi (nI b)), none] [] m = some (none, m') ∧ RCl m' p (L.take a ++ L.drop b) ∧ RCl m' q (inl1 M ((L.drop a).take (b - a))) ∧ fr (fun r n => QP p r n ∨ QP q r n) m m' := by
  have h4 := hp.1.2.2.2.1
  have h3 := hp.1.2.2.1
  by_cases heq : a = b
  · subst heq
    refine ⟨m, ?_, ?_, ?_, fr_rf _ _⟩
    · simp only [s21_0, s21_1, s21_4, s21_5, s21_6, s21_9, s21_12, s21_13, s21_14, s21_17, eq_self, ixk_some, bd_some, nl_n, nl_i, nl_r, Option.toList_some, Option.toList_none, List.cons_append, List.nil_append, h3]
      rw [if_neg (nI_pos (by omega)), if_neg (nI_nlt (by omega) (by omega)), if_neg (nI_nlt (by omega) (by omega))]
    · rw [List.take_append_drop]; exact hp
    · simpa [inl1] using hq
  · obtain ⟨m1, e1, e2, e3, e4⟩ := move1 (a := a) hne hb ((L.drop a).take (b - a)) a m M rfl hab hp hq hl
    obtain ⟨⟨h1, h2, h3', h4', h5, h6⟩, h7⟩ := e2
    have hloop := move2 (p := p) (a := a) (b := b) (n := L.length) (q := (5, some q)) (by omega) h4' (L.length - b) b m1 (by omega) (by omega) h5 h6 h1 h2 h3'
    obtain ⟨s1, s2, s3, s4, s5, s6, s7⟩ := dnM_get p a b (by omega) (L.length - b) b m1 (by omega)
    have z2 : mI (dnM m1 p a b (L.length - b) b) 5 p 2 = nI L.length := by rw [s1, if_neg (by omega)]; exact h3'
    have es : nI L.length - (nI b - nI a) = nI (L.length - (b - a)) := by rw [pk_sub (by omega), pk_sub (by omega)]
    have fD : fr (QP p) m1 (dnM m1 p a b (L.length - b) b) := by
      refine ⟨fun r n k hq => ⟨?_, ?_, by rw [s3]⟩, fun r => by rw [s4], fun r n => by rw [s5], s6, s7⟩
      · rw [s1, if_neg (fun z => hq ⟨Or.inr (Or.inl z.1), z.2.1⟩)]
      · rw [s2, if_neg (fun z => hq ⟨Or.inr (Or.inr z.1), z.2.1⟩)]
    have fE : fr (QP p) m1 (sI (dnM m1 p a b (L.length - b) b) 5 p 2 (nI (L.length - (b - a)))) := fr_tr fD (fr_sI _ _ ⟨Or.inl rfl, rfl⟩)
    refine ⟨sI (dnM m1 p a b (L.length - b) b) 5 p 2 (nI (L.length - (b - a))), ?_, ⟨⟨by show mR (dnM m1 p a b _ b) 5 p 0 = _; rw [s3]; exact h1, by show mR (dnM m1 p a b _ b) 5 p 1 = _; rw [s3]; exact h2, ?_, ?_, by show mN (dnM m1 p a b _ b) 12 p = _; rw [s5]; exact h5, by show mN (dnM m1 p a b _ b) 13 p = _; rw [s5]; exact h6⟩, fun j x hj => ?_⟩, RCl_fr e3 fE (fun z => hne z.symm), fr_tr (fr_le e4 (fun r n z => Or.inr z)) (fr_le fE (fun r n z => Or.inl z))⟩
    · simp only [s21_0, s21_1, s21_4, s21_5, s21_6, s21_9, s21_12, s21_13, s21_14, s21_18, s21_19i, s21_19r, s21_19n, eq_self, ixk_some, bd_some, nl_n, nl_i, nl_r, Option.toList_some, Option.toList_none, List.cons_append, List.nil_append, h3]
      rw [if_neg (nI_pos (by omega)), if_neg (nI_nlt (by omega) (by omega)), if_pos (nI_lt (by omega) (by omega)), e1]
      simp only [s21_51, s21_52i, s21_52r, s21_52n, eq_self, ixk_some, bd_some, nl_n, nl_i, nl_r, Option.toList_some, Option.toList_none, List.cons_append, List.nil_append]
      rw [hloop]
      simp only [s21_105, s21_106, s21_107, s21_110, s21_111, s21_112, s21_113, s21_114, s21_117, eq_self, ixk_some, bd_some, nl_n, nl_i, nl_r, Option.toList_some, Option.toList_none, List.cons_append, List.nil_append, z2, es]
    · rw [mI_sI, if_pos ⟨rfl, rfl, rfl⟩]
      congr 1
      simp; omega
    · simp; omega
    · rw [mI_sI, if_neg (by omega), mL_sI, s1, s2]
      by_cases hja : j < a
      · rw [List.getElem?_append_left (by simp; omega), List.getElem?_take, if_pos hja] at hj
        rw [if_neg (by omega), if_neg (by omega)]
        exact h7 j x hj
      · rw [List.getElem?_append_right (by simp; omega), List.getElem?_drop] at hj
        have hmin : (L.take a).length = a := by simp; omega
        rw [hmin] at hj
        have hjl := (List.getElem?_eq_some_iff.mp hj).1
        have hv := h7 _ x hj
        have e : b + (j - a) = j + b - a := by omega
        rw [e] at hv
        have hc : a + b - b ≤ j ∧ j < a + b - b + (L.length - b) := by omega
        rw [if_pos ⟨rfl, rfl, hc⟩, if_pos ⟨rfl, rfl, hc⟩]
        exact hv
