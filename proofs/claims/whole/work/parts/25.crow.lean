/-! the class: rows -/
theorem xor_comm32 (x y : Int32) : x ^^^ y = y ^^^ x := by
  apply Int32.toBitVec_inj.mp
  simp [BitVec.xor_comm]
theorem like_comm (s : ST) (p q l : Nat) : like s p q l = like s q p l := by
  unfold like lkb
  rw [xor_comm32]
theorem be_ne2 {b : Nat} (h : b ≤ 3) (hq : ¬ b = 2) : ¬ nI b = 2 := by
  rw [nI_k2, nI_eq (by omega) (by omega)]; exact hq
theorem go_numberOf {s : ST} {m : MM} {t : Nat} {o : Option Nat} (h : RCp s m) (ht : o = none ∨ t = 6) (ho : ∀ x, o = some x → x < c_n s) : go 94 0 [some (vr t o)] [] m = some (some (vi (enc o)), m) := by
  cases o with
  | none => simp only [s94_0, s94_1n, s94_1s, s94_4, s94_5, s94_8, s94_11, s94_13, eq_self, ixk_some, bd_some, nl_n, nl_i, nl_r, Option.toList_some, Option.toList_none, List.cons_append, List.nil_append]; rfl
  | some x =>
    obtain rfl : t = 6 := ht.resolve_left (by simp)
    have g := (h.2.2.2.2.2.2 x (ho x rfl)).1
    simp only [s94_0, s94_1n, s94_1s, s94_4, s94_5, s94_8, s94_11, s94_13, eq_self, ixk_some, bd_some, nl_n, nl_i, nl_r, Option.toList_some, Option.toList_none, List.cons_append, List.nil_append, g]; rfl
theorem go_isLevel {m : MM} {x : Int32} : go 95 0 [some (vi x)] [] m = some (some (vi (b2 (decide (0 ≤ x.toInt ∧ x.toInt ≤ 8)))), m) := by
  simp only [s95_0, s95_1, s95_4, s95_5, s95_7, s95_10, s95_11, s95_14, s95_15b0, s95_15b1, eq_self, ixk_some, bd_some, nl_n, nl_i, nl_r, Option.toList_some, Option.toList_none, List.cons_append, List.nil_append]
  by_cases h0 : x < 0
  · rw [if_pos h0]
    rw [Int32.lt_iff_toInt_lt, Int32.toInt_zero] at h0
    rw [decide_eq_false (by omega)]; rfl
  · rw [if_neg h0]
    rw [Int32.lt_iff_toInt_lt, Int32.toInt_zero] at h0
    have e8 : (8 : Int32).toInt = 8 := by decide
    by_cases h8 : 8 < x
    · rw [if_pos h8]
      rw [Int32.lt_iff_toInt_lt, e8] at h8
      rw [decide_eq_false (by omega)]; rfl
    · rw [if_neg h8]
      rw [Int32.lt_iff_toInt_lt, e8] at h8
      rw [decide_eq_true (by omega)]; rfl
theorem go_isInRow {s : ST} {m : MM} {q u l : Nat} (h : RCp s m) (hq : q < c_n s) (hu : u < c_n s) : go 96 0 [some (vr 6 (some q)), some (vr 6 (some u)), some (vi (nI l))] [] m = some (some (vi (b2 (c_be s q == 2 && like s u q l))), m) := by
  have g3 := (h.2.2.2.2.2.2 q hq).2.2.2.1
  have hb := h.2.2.2.2.2.1 q hq
  have hs := go_startsAs (l := l) h hq hu
  rw [like_comm] at hs
  simp only [s96_0, s96_1, s96_4, s96_5, s96_8, s96_9, s96_10, s96_11, s96_14, s96_17, s96_18, s96_21, s96_22b0, s96_22b1, eq_self, ixk_some, bd_some, nl_n, nl_i, nl_r, Option.toList_some, Option.toList_none, List.cons_append, List.nil_append, g3, hs]
  by_cases h2 : c_be s q = 2
  · rw [if_neg (by rw [h2]; decide), h2]
    cases like s u q l <;> rfl
  · rw [if_pos (be_ne2 hb h2)]
    simp [h2, b2]
theorem rank_loop {s : ST} {m : MM} {q u l : Nat} (h : RCp s m) (hq : q < c_n s) (hu : u < c_n s) : ∀ d i acc, i + d = c_n s →
    go 97 6 [some (vr 7 (some 0)), some (vr 6 (some q)), some (vr 6 (some u)), some (vi (nI l)), some (vi (nI acc)), some (vi (nI i))] [] m = some (some (vi (nI (acc + cntF (fun r => c_be s r == 2 && like s u r l && decide (c_nm s r < c_nm s q)) d i))), m) := by
  have h' := h
  obtain ⟨h1, h2, h3, h4, h5, h6, h7⟩ := h
  intro d
  induction d with
  | zero =>
    intro i acc hi
    rw [s97_6]
    simp only [s97_0, s97_1i, s97_1r, s97_1n, s97_3, s97_4i, s97_4r, s97_4n, s97_8, s97_9, s97_12, s97_15, s97_17, s97_18, s97_21, s97_23, s97_24, s97_25, s97_26, s97_29, s97_32, s97_33, s97_36, s97_38, s97_39, s97_42, s97_43, s97_46, s97_49, s97_50, s97_53, s97_54, s97_55i, s97_55r, s97_55n, s97_57i, s97_57r, s97_57n, s97_60, s97_63, s97_65, eq_self, ixk_some, bd_some, nl_n, nl_i, nl_r, Option.toList_some, Option.toList_none, List.cons_append, List.nil_append, h2]
    rw [if_pos (nI_le (by omega) (by omega))]
    rfl
  | succ d ih =>
    intro i acc hi
    have hix := ix_nI (i := i) (n := mN m 16 0) (by rw [h4]; omega) (by rw [h4]; decide)
    have g1 := (h7 i (by omega)).2.1
    have gq := (h7 q hq).2.1
    have hr := go_isInRow (l := l) h' (show i < c_n s by omega) hu
    rw [s97_6]
    simp only [s97_0, s97_1i, s97_1r, s97_1n, s97_3, s97_4i, s97_4r, s97_4n, s97_8, s97_9, s97_12, s97_15, s97_17, s97_18, s97_21, s97_23, s97_24, s97_25, s97_26, s97_29, s97_32, s97_33, s97_36, s97_38, s97_39, s97_42, s97_43, s97_46, s97_49, s97_50, s97_53, s97_54, s97_55i, s97_55r, s97_55n, s97_57i, s97_57r, s97_57n, s97_60, s97_63, s97_65, eq_self, ixk_some, bd_some, nl_n, nl_i, nl_r, Option.toList_some, Option.toList_none, List.cons_append, List.nil_append, h2, h3, hix, h5 i (by omega), g1, gq, hr]
    rw [if_neg (nI_ge (by omega) (by omega)), nI_1]
    cases hc : (c_be s i == 2 && like s u i l)
    · rw [if_pos (show b2 false = 0 from rfl), nI_k0, nI_add, ih (i + 1) _ (by omega)]
      simp [cntF, hc]
    · rw [if_neg (show ¬ b2 true = 0 by decide)]
      by_cases hn : c_nm s i < c_nm s q
      · rw [if_neg (by rw [Int32.not_le]; exact hn), nI_1, ih (i + 1) _ (by omega)]
        simp only [cntF, hc, hn, decide_true, Bool.true_and, if_true]
        rw [Nat.add_assoc]
      · rw [if_pos (by rw [← Int32.not_lt]; exact hn), nI_k0, nI_add, ih (i + 1) _ (by omega)]
        simp [cntF, hc, hn]
theorem go_rankInRow {s : ST} {m : MM} {q u l : Nat} (h : RCp s m) (hq : q < c_n s) (hu : u < c_n s) : go 97 0 [some (vr 7 (some 0)), some (vr 6 (some q)), some (vr 6 (some u)), some (vi (nI l)), none, none] [] m = some (some (vi (nI (rkF s u l q))), m) := by
  simp only [s97_0, s97_1i, s97_1r, s97_1n, s97_3, s97_4i, s97_4r, s97_4n, eq_self, ixk_some, bd_some, nl_n, nl_i, nl_r, Option.toList_some, Option.toList_none, List.cons_append, List.nil_append]
  have := rank_loop (l := l) h hq hu (c_n s) 0 0 (by omega)
  rw [Nat.zero_add] at this
  exact this
theorem next_loop {s : ST} {m : MM} {u l d : Nat} (h : RCp s m) (hu : u < c_n s) (hd : d < 2) : ∀ k q t (o : Option Nat) (a6 : Option AV), q + k = c_n s → (o = none ∨ t = 6) → (∀ x, o = some x → x < c_n s) →
    ∃ t', (nxF s u l d k q o = none ∨ t' = 6) ∧ (∀ x, nxF s u l d k q o = some x → x < c_n s) ∧
      go 98 6 [some (vr 7 (some 0)), some (vr 6 (some u)), some (vi (nI l)), some (vi (nI d)), some (vr t o), some (vi (nI q)), a6] [] m = some (some (vr t' (nxF s u l d k q o)), m) := by
  have h' := h
  obtain ⟨h1, h2, h3, h4, h5, h6, h7⟩ := h
  intro k
  induction k with
  | zero =>
    intro q t o a6 hq ht ho
    refine ⟨t, ht, ho, ?_⟩
    rw [s98_6]
    simp only [s98_0, s98_1i, s98_1r, s98_1n, s98_3, s98_4i, s98_4r, s98_4n, s98_8, s98_9, s98_12, s98_15, s98_16, s98_19, s98_21, s98_22i, s98_22r, s98_22n, s98_24, s98_26, s98_27, s98_28, s98_31, s98_34, s98_36, s98_37, s98_38, s98_41, s98_44, s98_46n, s98_46s, s98_49, s98_51, s98_53, s98_54, s98_57, s98_60, s98_62i, s98_62r, s98_62n, s98_64i, s98_64r, s98_64n, s98_67, s98_70, s98_72, eq_self, ixk_some, bd_some, nl_n, nl_i, nl_r, Option.toList_some, Option.toList_none, List.cons_append, List.nil_append, h2]
    rw [if_pos (nI_le (by omega) (by omega))]
    rfl
  | succ k ih =>
    intro q t o a6 hq ht ho
    have hix := ix_nI (i := q) (n := mN m 16 0) (by rw [h4]; omega) (by rw [h4]; decide)
    have hqn : q < c_n s := by omega
    have hr := go_isInRow (l := l) h' hqn hu
    have hb := go_isBeyond h' hqn hu hd
    rw [s98_6]
    simp only [s98_0, s98_1i, s98_1r, s98_1n, s98_3, s98_4i, s98_4r, s98_4n, s98_8, s98_9, s98_12, s98_15, s98_16, s98_19, s98_21, s98_22i, s98_22r, s98_22n, s98_24, s98_26, s98_27, s98_28, s98_31, s98_34, s98_36, s98_37, s98_38, s98_41, s98_44, s98_49, s98_51, s98_53, s98_54, s98_57, s98_60, s98_62i, s98_62r, s98_62n, s98_64i, s98_64r, s98_64n, s98_67, s98_70, s98_72, eq_self, ixk_some, bd_some, nl_n, nl_i, nl_r, Option.toList_some, Option.toList_none, List.cons_append, List.nil_append, h2, h3, hix, h5 q (by omega), hr, hb]
    rw [if_neg (nI_ge (by omega) (by omega)), nI_1]
    have skip : ∀ b : Bool, b = false → (c_be s q = 2 ∧ like s u q l = true ∧ bey s q u d = true ∧ nbO s o q d = true ↔ b = true) → ∃ t', (nxF s u l d (k + 1) q o = none ∨ t' = 6) ∧ (∀ x, nxF s u l d (k + 1) q o = some x → x < c_n s) ∧
        go 98 6 [some (vr 7 (some 0)), some (vr 6 (some u)), some (vi (nI l)), some (vi (nI d)), some (vr t o), some (vi (nI (q + 1))), some (vr 6 (some q))] [] m = some (some (vr t' (nxF s u l d (k + 1) q o)), m) := by
      intro b hb hiff
      obtain ⟨t', a1, a2, a3⟩ := ih (q + 1) t o (some (vr 6 (some q))) (by omega) ht ho
      have e : nxF s u l d (k + 1) q o = nxF s u l d k (q + 1) o := congrArg (nxF s u l d k (q + 1)) (if_neg (fun z => by rw [hb] at hiff; exact absurd (hiff.mp z) (by decide)))
      rw [e]
      exact ⟨t', a1, a2, a3⟩
    have take : (c_be s q = 2 ∧ like s u q l = true ∧ bey s q u d = true ∧ nbO s o q d = true) → ∃ t', (nxF s u l d (k + 1) q o = none ∨ t' = 6) ∧ (∀ x, nxF s u l d (k + 1) q o = some x → x < c_n s) ∧
        go 98 6 [some (vr 7 (some 0)), some (vr 6 (some u)), some (vi (nI l)), some (vi (nI d)), some (vr 6 (some q)), some (vi (nI (q + 1))), some (vr 6 (some q))] [] m = some (some (vr t' (nxF s u l d (k + 1) q o)), m) := by
      intro hall
      obtain ⟨t', a1, a2, a3⟩ := ih (q + 1) 6 (some q) (some (vr 6 (some q))) (by omega) (Or.inr rfl) (fun x hx => by cases hx; exact hqn)
      have e : nxF s u l d (k + 1) q o = nxF s u l d k (q + 1) (some q) := congrArg (nxF s u l d k (q + 1)) (if_pos hall)
      rw [e]
      exact ⟨t', a1, a2, a3⟩
    cases hc : (c_be s q == 2 && like s u q l)
    · rw [if_pos (show b2 false = 0 from rfl)]
      refine skip false rfl ⟨fun z => ?_, fun z => by cases z⟩
      simp [z.1, z.2.1] at hc
    · rw [if_neg (show ¬ b2 true = 0 by decide)]
      simp only [Bool.and_eq_true, beq_iff_eq] at hc
      cases hbe : bey s q u d
      · rw [if_pos (show b2 false = 0 from rfl)]
        refine skip false rfl ⟨fun z => ?_, fun z => by cases z⟩
        rw [hbe] at z; simp at z
      · rw [if_neg (show ¬ b2 true = 0 by decide)]
        cases o with
        | none =>
          simp only [s98_0, s98_1i, s98_1r, s98_1n, s98_3, s98_4i, s98_4r, s98_4n, s98_8, s98_9, s98_12, s98_15, s98_16, s98_19, s98_21, s98_22i, s98_22r, s98_22n, s98_24, s98_26, s98_27, s98_28, s98_31, s98_34, s98_36, s98_37, s98_38, s98_41, s98_44, s98_46n, s98_46s, s98_49, s98_51, s98_53, s98_54, s98_57, s98_60, s98_62i, s98_62r, s98_62n, s98_64i, s98_64r, s98_64n, s98_67, s98_70, s98_72, eq_self, ixk_some, bd_some, nl_n, nl_i, nl_r, Option.toList_some, Option.toList_none, List.cons_append, List.nil_append, nI_1]
          exact take ⟨hc.1, hc.2, hbe, rfl⟩
        | some x =>
          obtain rfl : t = 6 := ht.resolve_left (by simp)
          have hx := go_isBeyond h' (ho x rfl) hqn hd
          simp only [s98_0, s98_1i, s98_1r, s98_1n, s98_3, s98_4i, s98_4r, s98_4n, s98_8, s98_9, s98_12, s98_15, s98_16, s98_19, s98_21, s98_22i, s98_22r, s98_22n, s98_24, s98_26, s98_27, s98_28, s98_31, s98_34, s98_36, s98_37, s98_38, s98_41, s98_44, s98_46n, s98_46s, s98_49, s98_51, s98_53, s98_54, s98_57, s98_60, s98_62i, s98_62r, s98_62n, s98_64i, s98_64r, s98_64n, s98_67, s98_70, s98_72, eq_self, ixk_some, bd_some, nl_n, nl_i, nl_r, Option.toList_some, Option.toList_none, List.cons_append, List.nil_append, hx, nI_1]
          cases hxb : bey s x q d
          · rw [if_pos (show b2 false = 0 from rfl)]
            refine skip false rfl ⟨fun z => ?_, fun z => by cases z⟩
            have hz : bey s x q d = true := z.2.2.2
            rw [hxb] at hz
            cases hz
          · rw [if_neg (show ¬ b2 true = 0 by decide)]
            exact take ⟨hc.1, hc.2, hbe, hxb⟩
theorem go_nextInRow {s : ST} {m : MM} {u l d : Nat} (h : RCp s m) (hu : u < c_n s) (hd : d < 2) : ∃ t, (nxt s u l d = none ∨ t = 6) ∧ (∀ x, nxt s u l d = some x → x < c_n s) ∧ go 98 0 [some (vr 7 (some 0)), some (vr 6 (some u)), some (vi (nI l)), some (vi (nI d)), none, none, none] [] m = some (some (vr t (nxt s u l d)), m) := by
  simp only [s98_0, s98_1i, s98_1r, s98_1n, s98_3, s98_4i, s98_4r, s98_4n, eq_self, ixk_some, bd_some, nl_n, nl_i, nl_r, Option.toList_some, Option.toList_none, List.cons_append, List.nil_append]
  exact next_loop h hu hd (c_n s) 0 0 none none (by omega) (Or.inl rfl) (fun x hx => by cases hx)
