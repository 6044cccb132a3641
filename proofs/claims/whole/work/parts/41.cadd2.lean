/-! the class: Line.add -/
def addM (m : MM) (n len : Nat) (g : MSG) (c : Int32) : MM := sI (sI (sR (sR (sI (sI (sR (sI (sR m 4 n 2 (g_as g)) 4 n 0 (nI (g_so g))) 4 n 1 (some (g_to g))) 4 n 3 (enc (g_lv g))) 4 n 4 (nI (g_sd g))) 4 n 5 (g_lf g)) 4 n 6 (g_rg g)) 3 0 1 (nI (len + 1))) 3 0 2 c
theorem add_tail {m : MM} {n len ta tl tr : Nat} {g : MSG} {c : Nat} (h0 : mR m 3 0 0 = some 0) (h1 : mN m 11 0 = 192) (h2 : mI m 3 0 1 = nI len) (h3 : len < 192) (h4 : mR m 11 0 len = some n) (h5 : mI m 3 0 2 = nI c) (hta : g_as g = none ∨ ta = 1) (htl : g_lf g = none ∨ tl = 6) (htr : g_rg g = none ∨ tr = 6) {a8 : Option AV} :
    go 12 45 [some (vr 3 (some 0)), some (vr ta (g_as g)), some (vi (nI (g_so g))), some (vr 6 (some (g_to g))), some (vi (enc (g_lv g))), some (vi (nI (g_sd g))), some (vr tl (g_lf g)), some (vr tr (g_rg g)), a8] [] m = some (none, addM m n len g (nI (c + if g_as g = none then 1 else 0))) := by
  have hix := ix_nI (i := len) (n := mN m 11 0) (by rw [h1]; exact h3) (by rw [h1]; decide)
  have p1 : ∀ ls st m2, go 12 59 ls (.inr (.inr (ta, g_as g)) :: .inr (.inr (4, some n)) :: st) m2 = go 12 62 ls st (sR m2 4 n 2 (g_as g)) := by
    intro ls st m2
    rcases hta with h | h
    · rw [h]; exact s12_59n
    · rw [h]; exact s12_59r
  have p2 : ∀ ls st m2, go 12 92 ls (.inr (.inr (tl, g_lf g)) :: .inr (.inr (4, some n)) :: st) m2 = go 12 95 ls st (sR m2 4 n 5 (g_lf g)) := by
    intro ls st m2
    rcases htl with h | h
    · rw [h]; exact s12_92n
    · rw [h]; exact s12_92r
  have p3 : ∀ ls st m2, go 12 99 ls (.inr (.inr (tr, g_rg g)) :: .inr (.inr (4, some n)) :: st) m2 = go 12 102 ls st (sR m2 4 n 6 (g_rg g)) := by
    intro ls st m2
    rcases htr with h | h
    · rw [h]; exact s12_99n
    · rw [h]; exact s12_99r
  simp only [s12_0, s12_1n, s12_1s, s12_4, s12_5, s12_8, s12_9, s12_12, s12_13, s12_16, s12_17, s12_18, s12_21, s12_22, s12_25, s12_26n, s12_26s, s12_29, s12_30, s12_33, s12_34, s12_37, s12_40, s12_41, s12_44r, s12_44n, s12_45, s12_46, s12_49, s12_50, s12_53, s12_54i, s12_54r, s12_54n, s12_56, s12_58, s12_62, s12_64, s12_65, s12_68, s12_70, s12_71r, s12_71n, s12_74, s12_76, s12_78, s12_81, s12_83, s12_85, s12_88, s12_90, s12_95, s12_97, s12_102, s12_103, s12_104, s12_107, s12_108, s12_109, s12_112, s12_113, s12_114, s12_117, s12_121, s12_122, s12_125, s12_126, s12_127, s12_130, eq_self, ixk_some, bd_some, nl_n, nl_i, nl_r, Option.toList_some, Option.toList_none, List.cons_append, List.nil_append, h0, h2, hix, h4, p1, p2, p3, mI_sI, mI_sR, Nat.reduceEqDiff, false_and, if_false, true_and, and_self, and_false, reduceCtorEq, h5]
  cases hg : g_as g with
  | none => 
    simp only [s12_0, s12_1n, s12_1s, s12_4, s12_5, s12_8, s12_9, s12_12, s12_13, s12_16, s12_17, s12_18, s12_21, s12_22, s12_25, s12_26n, s12_26s, s12_29, s12_30, s12_33, s12_34, s12_37, s12_40, s12_41, s12_44r, s12_44n, s12_45, s12_46, s12_49, s12_50, s12_53, s12_54i, s12_54r, s12_54n, s12_56, s12_58, s12_62, s12_64, s12_65, s12_68, s12_70, s12_71r, s12_71n, s12_74, s12_76, s12_78, s12_81, s12_83, s12_85, s12_88, s12_90, s12_95, s12_97, s12_102, s12_103, s12_104, s12_107, s12_108, s12_109, s12_112, s12_113, s12_114, s12_117, s12_118n, s12_118s, s12_121, s12_122, s12_125, s12_126, s12_127, s12_130, eq_self, ixk_some, bd_some, nl_n, nl_i, nl_r, Option.toList_some, Option.toList_none, List.cons_append, List.nil_append]
    simp only [addM, hg, nI_1, if_true]
  | some k => 
    simp only [s12_0, s12_1n, s12_1s, s12_4, s12_5, s12_8, s12_9, s12_12, s12_13, s12_16, s12_17, s12_18, s12_21, s12_22, s12_25, s12_26n, s12_26s, s12_29, s12_30, s12_33, s12_34, s12_37, s12_40, s12_41, s12_44r, s12_44n, s12_45, s12_46, s12_49, s12_50, s12_53, s12_54i, s12_54r, s12_54n, s12_56, s12_58, s12_62, s12_64, s12_65, s12_68, s12_70, s12_71r, s12_71n, s12_74, s12_76, s12_78, s12_81, s12_83, s12_85, s12_88, s12_90, s12_95, s12_97, s12_102, s12_103, s12_104, s12_107, s12_108, s12_109, s12_112, s12_113, s12_114, s12_117, s12_118n, s12_118s, s12_121, s12_122, s12_125, s12_126, s12_127, s12_130, eq_self, ixk_some, bd_some, nl_n, nl_i, nl_r, Option.toList_some, Option.toList_none, List.cons_append, List.nil_append]
    simp only [addM, hg, nI_1, reduceCtorEq, if_false, Nat.add_zero, Int32.add_zero]
theorem add_rep {s : ST} {m m' : MM} {n : Nat} {g : MSG} {h : Nat} (hm : RCm s m) (hl : (c_ms s).length < h) (h192 : h ≤ 192) (hn : mR m 11 0 (c_ms s).length = some n)
    (hsl : ∀ i, i < h → ∃ n, mR m 11 0 i = some n ∧ n < mC m 4 ∧ mR m 3 0 3 ≠ some n) (hno : ∀ i, h ≤ i → i < 192 → mR m 11 0 i = none) (hin : ∀ i j n, i < h → j < h → mR m 11 0 i = some n → mR m 11 0 j = some n → i = j) (hlt : mR m 3 0 3 = none → h = (c_ms s).length + 1) (hc : mC m 4 = h + (if mR m 3 0 3 = none then 0 else 1)) (hlc : ∀ n, mR m 3 0 3 = some n → n < mC m 4)
    (he : m' = addM m n (c_ms s).length g (nI (chM s + if g_as g = none then 1 else 0))) : RCm (snd1 s g) m' ∧ RCs (snd1 s g) m' ∧ fr (QA m) m m' ∧ mR m' 3 0 3 = mR m 3 0 3 := by
  have hln : (c_ms (snd1 s g)).length = (c_ms s).length + 1 := by
    show (c_ms s ++ [g]).length = _
    simp
  have hnl : mR m 3 0 3 ≠ some n := by
    obtain ⟨n', a1, a2, a3⟩ := hsl _ hl
    rw [hn] at a1
    cases a1
    exact a3
  have e11 : ∀ i, mR m' 11 0 i = mR m 11 0 i := fun i => by rw [he]; rfl
  have e33 : mR m' 3 0 3 = mR m 3 0 3 := by rw [he]; rfl
  have eC : mC m' 4 = mC m 4 := by rw [he]; rfl
  have fX : fr (fun r k => (r = 3 ∧ k = 0) ∨ (r = 4 ∧ k = n)) m m' := by
    rw [he]
    unfold addM
    have q3 : (fun r k => (r = 3 ∧ k = 0) ∨ (r = 4 ∧ k = n)) 3 0 := Or.inl ⟨rfl, rfl⟩
    have q4 : (fun r k => (r = 3 ∧ k = 0) ∨ (r = 4 ∧ k = n)) 4 n := Or.inr ⟨rfl, rfl⟩
    exact fr_tr (fr_sR m _ q4) (fr_tr (fr_sI _ _ q4) (fr_tr (fr_sR _ _ q4) (fr_tr (fr_sI _ _ q4) (fr_tr (fr_sI _ _ q4) (fr_tr (fr_sR _ _ q4) (fr_tr (fr_sR _ _ q4) (fr_tr (fr_sI _ _ q3) (fr_sI _ _ q3))))))))
  obtain ⟨k1, k2, k3, k4, k5, k6, k7⟩ := hm
  refine ⟨⟨by rw [he]; exact k1, by rw [he]; exact k2, by rw [he]; exact k3, ?_, ?_, ?_, ?_⟩, ⟨h, ?_, h192, ?_, ?_, ?_, ?_, ?_, ?_⟩, fr_le fX ?_, e33⟩
  · rw [he, hln]; rfl
  · rw [hln]; omega
  · rw [he, chM_snd]; rfl
  · intro i g' hg
    have hg : (c_ms s ++ [g])[i]? = some g' := hg
    by_cases hi : i < (c_ms s).length
    · rw [List.getElem?_append_left hi] at hg
      obtain ⟨n', a1, a2⟩ := k7 i g' hg
      refine ⟨n', by rw [e11]; exact a1, RC3_fg a2 (fg_fr fX) ?_⟩
      intro z
      have : n' = n := by omega
      subst this
      have := hin _ _ _ (by omega) hl a1 hn
      omega
    · rw [List.getElem?_append_right (by omega)] at hg
      have hi2 : i = (c_ms s).length := by
        by_cases h9 : i - (c_ms s).length = 0
        · omega
        · rw [List.getElem?_eq_none (by simp; omega)] at hg
          cases hg
      subst hi2
      rw [Nat.sub_self] at hg
      have hg : g = g' := by simpa using hg
      subst hg
      refine ⟨n, by rw [e11]; exact hn, ?_⟩
      rw [he]
      unfold addM RC3
      simp [mI_sI, mI_sR, mR_sI, mR_sR]
  · rw [hln]; exact hl
  · intro i hi
    obtain ⟨n', a⟩ := hsl i hi
    exact ⟨n', by rw [e11, e33, eC]; exact a⟩
  · intro i; rw [e11]; exact hno i
  · intro i j n'; rw [e11, e11]; exact hin i j n'
  · rw [e33, hln]; exact hlt
  · rw [e33, eC]; exact hc
  · intro n'; rw [e33, eC]; exact hlc n'
  · intro r k z
    rcases z with ⟨z1, z2⟩ | ⟨z1, z2⟩
    · exact Or.inl ⟨Or.inl z1, z2⟩
    · exact Or.inr ⟨z1, by rw [z2]; exact hnl⟩
theorem fg_al {Q : Nat → Nat → Prop} (m : MM) {r len sz : Nat} (hr : r = 1 ∨ r = 4 ∨ r = 5 ∨ r = 6 ∨ r = 9 ∨ r = 10 ∨ r = 12 ∨ r = 13 ∨ r = 14 ∨ r = 15) (hsz : sz ≤ 100) (hq : Q r (mC m r)) : fg Q m (al m r len sz) := by
  have ht : tC (al m r len sz) = tC m + 1 := by
    unfold tC
    simp only [mC_al]
    rcases hr with h | h | h | h | h | h | h | h | h | h <;> subst h <;> simp <;> omega
  refine ⟨fun a b c z => ?_, fun a b z => ?_, fun a z => ?_, ?_, ?_⟩
  · have : ¬ (a = r ∧ b = mC m r) := fun e => z (by rw [e.1, e.2]; exact hq)
    unfold al mI mL mR
    simp only [if_neg this]
    exact ⟨trivial, trivial, trivial⟩
  · have : ¬ (a = r ∧ b = mC m r) := fun e => z (by rw [e.1, e.2]; exact hq)
    unfold al
    simp only [mN, if_neg this]
  · have : ¬ a = r := fun e => z (mC m r) (by rw [e]; exact hq)
    rw [mC_al, if_neg this]
  · rw [ht]; show mT m + 1 + _ ≤ _; omega
  · rw [ht]; show mS m + sz + _ ≤ _; omega
theorem go_add {s : ST} {m : MM} {ta tl tr : Nat} {g : MSG} (hm : RCm s m) (hs : RCs s m) (hlen : (c_ms s).length < 192) (hta : g_as g = none ∨ ta = 1) (htl : g_lf g = none ∨ tl = 6) (htr : g_rg g = none ∨ tr = 6) :
    ∃ m', go 12 0 [some (vr 3 (some 0)), some (vr ta (g_as g)), some (vi (nI (g_so g))), some (vr 6 (some (g_to g))), some (vi (enc (g_lv g))), some (vi (nI (g_sd g))), some (vr tl (g_lf g)), some (vr tr (g_rg g)), none] [] m = some (none, m') ∧ RCm (snd1 s g) m' ∧ RCs (snd1 s g) m' ∧ fg (QA m) m m' ∧ mR m' 3 0 3 = mR m 3 0 3 := by
  obtain ⟨h, s1, s2, s3, s4, s5, s6, s7, s8⟩ := hs
  have hm' := hm
  obtain ⟨k1, k2, k3, k4, k5, k6, k7⟩ := hm'
  have hix := ix_nI (i := (c_ms s).length) (n := mN m 11 0) (by rw [k3]; exact hlen) (by rw [k3]; decide)
  have h192 : nI (mN m 11 0) = nI 192 := by rw [k3]
  by_cases hc : (c_ms s).length = h
  · -- a new one
    have hno := s4 _ (Nat.le_of_eq hc.symm) hlen
    let m1 := sR (al m 4 0 7) 11 0 (c_ms s).length (some (mC m 4))
    have fa : fg (fun r k => (r = 11 ∧ k = 0) ∨ (r = 4 ∧ k = mC m 4)) m m1 := fg_tr (fg_al m (Or.inr (Or.inl rfl)) (by decide) (Or.inr ⟨rfl, rfl⟩)) (fg_sR _ _ (Or.inl ⟨rfl, rfl⟩))
    have e33 : mR m1 3 0 3 = mR m 3 0 3 := rfl
    have eC : mC m1 4 = mC m 4 + 1 := rfl
    have e11 : ∀ i, mR m1 11 0 i = if i = (c_ms s).length then some (mC m 4) else mR m 11 0 i := by
      intro i
      show mR (sR (al m 4 0 7) 11 0 (c_ms s).length (some (mC m 4))) 11 0 i = _
      rw [mR_sR]
      by_cases e : i = (c_ms s).length
      · rw [if_pos ⟨rfl, rfl, e⟩, if_pos e]
      · rw [if_neg (fun z => e z.2.2), if_neg e]; rfl
    have hm1 : RCm s m1 := by
      refine ⟨k1, k2, k3, k4, k5, k6, fun i g' hg => ?_⟩
      obtain ⟨n', a1, a2⟩ := k7 i g' hg
      have hi := (List.getElem?_eq_some_iff.mp hg).1
      refine ⟨n', by rw [e11, if_neg (by omega)]; exact a1, RC3_fg a2 fa ?_⟩
      obtain ⟨n2, b1, b2, b3⟩ := s3 i (by omega)
      rw [a1] at b1
      cases b1
      intro z
      omega
    obtain ⟨r1, r2, r3, r4⟩ := add_rep (h := h + 1) (n := mC m 4) (g := g) hm1 (by omega) (by omega) (by rw [e11, if_pos rfl]) (by
        intro i hi
        rw [e11, e33, eC]
        by_cases e : i = (c_ms s).length
        · rw [if_pos e]
          refine ⟨_, rfl, by omega, fun z => ?_⟩
          have := s8 _ z
          omega
        · rw [if_neg e]
          obtain ⟨n2, b1, b2, b3⟩ := s3 i (by omega)
          exact ⟨n2, b1, by omega, b3⟩) (by
        intro i hi hi2
        rw [e11, if_neg (by omega)]
        exact s4 i (by omega) hi2) (by
        intro i j n2 hi hj
        rw [e11, e11]
        by_cases e : i = (c_ms s).length
        · by_cases e2 : j = (c_ms s).length
          · omega
          · rw [if_pos e, if_neg e2]
            intro z1 z2
            obtain ⟨n3, b1, b2, b3⟩ := s3 j (by omega)
            cases z1
            rw [z2] at b1
            cases b1
            omega
        · by_cases e2 : j = (c_ms s).length
          · rw [if_neg e, if_pos e2]
            intro z1 z2
            obtain ⟨n3, b1, b2, b3⟩ := s3 i (by omega)
            cases z2
            rw [z1] at b1
            cases b1
            omega
          · rw [if_neg e, if_neg e2]
            exact s5 i j n2 (by omega) (by omega)) (by rw [e33]; intro z; have := s6 z; omega) (by rw [e33, eC]; omega) (by rw [e33, eC]; intro n2 z; have := s8 n2 z; omega) rfl
    refine ⟨_, ?_, r1, r2, fg_tr (fg_le fa ?_) (fg_fr (fr_le r3 ?_)), r4⟩
    · rw [← add_tail (ta := ta) (tl := tl) (tr := tr) (a8 := none) (m := m1) (c := chM s) k2 k3 k4 hlen (by rw [e11, if_pos rfl]) k6 hta htl htr]
      simp only [s12_0, s12_1n, s12_1s, s12_4, s12_5, s12_8, s12_9, s12_12, s12_13, s12_17, s12_18, s12_21, s12_22, s12_25, s12_26n, s12_26s, eq_self, ixk_some, bd_some, nl_n, nl_i, nl_r, Option.toList_some, Option.toList_none, List.cons_append, List.nil_append, k2, k4, h192, hix, hno]
      rw [if_pos (nI_lt hlen (by decide))]
      have e1 : go 14 0 [some (.inr (.inr (4, some (mC m 4))))] [] (al m 4 0 7) = some (none, al m 4 0 7) := by
        simp only [s14_0, s14_1, s14_4, eq_self, ixk_some, bd_some, nl_n, nl_i, nl_r, Option.toList_some, Option.toList_none, List.cons_append, List.nil_append]
      have e2 : mN (al m 4 0 7) 11 0 = mN m 11 0 := rfl
      simp only [s12_29, s12_30, s12_33, s12_34, s12_37, s12_40, s12_41, s12_44r, s12_44n, eq_self, ixk_some, bd_some, nl_n, nl_i, nl_r, Option.toList_some, Option.toList_none, List.cons_append, List.nil_append, k2, k4, e1, e2, hix]
      rfl
    · intro r k z
      rcases z with ⟨z1, z2⟩ | ⟨z1, z2⟩
      · exact Or.inl ⟨Or.inr z1, z2⟩
      · refine Or.inr ⟨z1, fun z => ?_⟩
        have := s8 _ z
        omega
    · intro r k z; exact z
  · obtain ⟨n, b1, b2, b3⟩ := s3 (c_ms s).length (by omega)
    obtain ⟨r1, r2, r3, r4⟩ := add_rep (h := h) (n := n) (g := g) hm (by omega) s2 b1 s3 s4 s5 (fun z => absurd (s6 z) (fun e => hc e.symm)) s7 s8 rfl
    refine ⟨_, ?_, r1, r2, fg_fr r3, r4⟩
    rw [← add_tail (ta := ta) (tl := tl) (tr := tr) (a8 := none) k2 k3 k4 hlen b1 k6 hta htl htr]
    simp only [s12_0, s12_1n, s12_1s, s12_4, s12_5, s12_8, s12_9, s12_12, s12_13, s12_17, s12_18, s12_21, s12_22, s12_25, s12_26n, s12_26s, eq_self, ixk_some, bd_some, nl_n, nl_i, nl_r, Option.toList_some, Option.toList_none, List.cons_append, List.nil_append, k2, k4, h192, hix, b1]
    rw [if_pos (nI_lt hlen (by decide))]
theorem go_add0 {m : MM} {t : Nat} {a1 a2 a4 a5 a6 a7 : AV} : go 12 0 [some (vr 3 (some 0)), some a1, some a2, some (vr t none), some a4, some a5, some a6, some a7, none] [] m = some (none, m) := by
  simp only [s12_0, s12_1n, s12_1s, s12_16, eq_self, ixk_some, bd_some, nl_n, nl_i, nl_r, Option.toList_some, Option.toList_none, List.cons_append, List.nil_append]
