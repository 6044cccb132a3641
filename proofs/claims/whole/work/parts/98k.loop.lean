/-! the loop of the law -/
theorem sw_cases (a : Int32) : (a.toInt < 0 ∨ 28 < a.toInt) ∨ a = 0 ∨ a = 1 ∨ a = 2 ∨ a = 3 ∨ a = 4 ∨ a = 5 ∨ a = 6 ∨ a = 7 ∨ a = 8 ∨ a = 9 ∨ a = 10 ∨ a = 11 ∨ a = 12 ∨ a = 13 ∨ a = 14 ∨ a = 15 ∨ a = 16 ∨ a = 17 ∨ a = 18 ∨ a = 19 ∨ a = 20 ∨ a = 21 ∨ a = 22 ∨ a = 23 ∨ a = 24 ∨ a = 25 ∨ a = 26 ∨ a = 27 ∨ a = 28 := by
  by_cases h : a.toInt < 0 ∨ 28 < a.toInt
  · exact Or.inl h
  · right
    have e0 : a.toInt = 0 → a = 0 := fun z => Int32.toInt_inj.mp (by rw [z]; decide)
    have e1 : a.toInt = 1 → a = 1 := fun z => Int32.toInt_inj.mp (by rw [z]; decide)
    have e2 : a.toInt = 2 → a = 2 := fun z => Int32.toInt_inj.mp (by rw [z]; decide)
    have e3 : a.toInt = 3 → a = 3 := fun z => Int32.toInt_inj.mp (by rw [z]; decide)
    have e4 : a.toInt = 4 → a = 4 := fun z => Int32.toInt_inj.mp (by rw [z]; decide)
    have e5 : a.toInt = 5 → a = 5 := fun z => Int32.toInt_inj.mp (by rw [z]; decide)
    have e6 : a.toInt = 6 → a = 6 := fun z => Int32.toInt_inj.mp (by rw [z]; decide)
    have e7 : a.toInt = 7 → a = 7 := fun z => Int32.toInt_inj.mp (by rw [z]; decide)
    have e8 : a.toInt = 8 → a = 8 := fun z => Int32.toInt_inj.mp (by rw [z]; decide)
    have e9 : a.toInt = 9 → a = 9 := fun z => Int32.toInt_inj.mp (by rw [z]; decide)
    have e10 : a.toInt = 10 → a = 10 := fun z => Int32.toInt_inj.mp (by rw [z]; decide)
    have e11 : a.toInt = 11 → a = 11 := fun z => Int32.toInt_inj.mp (by rw [z]; decide)
    have e12 : a.toInt = 12 → a = 12 := fun z => Int32.toInt_inj.mp (by rw [z]; decide)
    have e13 : a.toInt = 13 → a = 13 := fun z => Int32.toInt_inj.mp (by rw [z]; decide)
    have e14 : a.toInt = 14 → a = 14 := fun z => Int32.toInt_inj.mp (by rw [z]; decide)
    have e15 : a.toInt = 15 → a = 15 := fun z => Int32.toInt_inj.mp (by rw [z]; decide)
    have e16 : a.toInt = 16 → a = 16 := fun z => Int32.toInt_inj.mp (by rw [z]; decide)
    have e17 : a.toInt = 17 → a = 17 := fun z => Int32.toInt_inj.mp (by rw [z]; decide)
    have e18 : a.toInt = 18 → a = 18 := fun z => Int32.toInt_inj.mp (by rw [z]; decide)
    have e19 : a.toInt = 19 → a = 19 := fun z => Int32.toInt_inj.mp (by rw [z]; decide)
    have e20 : a.toInt = 20 → a = 20 := fun z => Int32.toInt_inj.mp (by rw [z]; decide)
    have e21 : a.toInt = 21 → a = 21 := fun z => Int32.toInt_inj.mp (by rw [z]; decide)
    have e22 : a.toInt = 22 → a = 22 := fun z => Int32.toInt_inj.mp (by rw [z]; decide)
    have e23 : a.toInt = 23 → a = 23 := fun z => Int32.toInt_inj.mp (by rw [z]; decide)
    have e24 : a.toInt = 24 → a = 24 := fun z => Int32.toInt_inj.mp (by rw [z]; decide)
    have e25 : a.toInt = 25 → a = 25 := fun z => Int32.toInt_inj.mp (by rw [z]; decide)
    have e26 : a.toInt = 26 → a = 26 := fun z => Int32.toInt_inj.mp (by rw [z]; decide)
    have e27 : a.toInt = 27 → a = 27 := fun z => Int32.toInt_inj.mp (by rw [z]; decide)
    have e28 : a.toInt = 28 → a = 28 := fun z => Int32.toInt_inj.mp (by rw [z]; decide)
    have hh : a.toInt = 0 ∨ a.toInt = 1 ∨ a.toInt = 2 ∨ a.toInt = 3 ∨ a.toInt = 4 ∨ a.toInt = 5 ∨ a.toInt = 6 ∨ a.toInt = 7 ∨ a.toInt = 8 ∨ a.toInt = 9 ∨ a.toInt = 10 ∨ a.toInt = 11 ∨ a.toInt = 12 ∨ a.toInt = 13 ∨ a.toInt = 14 ∨ a.toInt = 15 ∨ a.toInt = 16 ∨ a.toInt = 17 ∨ a.toInt = 18 ∨ a.toInt = 19 ∨ a.toInt = 20 ∨ a.toInt = 21 ∨ a.toInt = 22 ∨ a.toInt = 23 ∨ a.toInt = 24 ∨ a.toInt = 25 ∨ a.toInt = 26 ∨ a.toInt = 27 ∨ a.toInt = 28 := by omega
    rcases hh with z | z | z | z | z | z | z | z | z | z | z | z | z | z | z | z | z | z | z | z | z | z | z | z | z | z | z | z | z
    · exact Or.inl (e0 z)
    · exact Or.inr (Or.inl (e1 z))
    · exact Or.inr (Or.inr (Or.inl (e2 z)))
    · exact Or.inr (Or.inr (Or.inr (Or.inl (e3 z))))
    · exact Or.inr (Or.inr (Or.inr (Or.inr (Or.inl (e4 z)))))
    · exact Or.inr (Or.inr (Or.inr (Or.inr (Or.inr (Or.inl (e5 z))))))
    · exact Or.inr (Or.inr (Or.inr (Or.inr (Or.inr (Or.inr (Or.inl (e6 z)))))))
    · exact Or.inr (Or.inr (Or.inr (Or.inr (Or.inr (Or.inr (Or.inr (Or.inl (e7 z))))))))
    · exact Or.inr (Or.inr (Or.inr (Or.inr (Or.inr (Or.inr (Or.inr (Or.inr (Or.inl (e8 z)))))))))
    · exact Or.inr (Or.inr (Or.inr (Or.inr (Or.inr (Or.inr (Or.inr (Or.inr (Or.inr (Or.inl (e9 z))))))))))
    · exact Or.inr (Or.inr (Or.inr (Or.inr (Or.inr (Or.inr (Or.inr (Or.inr (Or.inr (Or.inr (Or.inl (e10 z)))))))))))
    · exact Or.inr (Or.inr (Or.inr (Or.inr (Or.inr (Or.inr (Or.inr (Or.inr (Or.inr (Or.inr (Or.inr (Or.inl (e11 z))))))))))))
    · exact Or.inr (Or.inr (Or.inr (Or.inr (Or.inr (Or.inr (Or.inr (Or.inr (Or.inr (Or.inr (Or.inr (Or.inr (Or.inl (e12 z)))))))))))))
    · exact Or.inr (Or.inr (Or.inr (Or.inr (Or.inr (Or.inr (Or.inr (Or.inr (Or.inr (Or.inr (Or.inr (Or.inr (Or.inr (Or.inl (e13 z))))))))))))))
    · exact Or.inr (Or.inr (Or.inr (Or.inr (Or.inr (Or.inr (Or.inr (Or.inr (Or.inr (Or.inr (Or.inr (Or.inr (Or.inr (Or.inr (Or.inl (e14 z)))))))))))))))
    · exact Or.inr (Or.inr (Or.inr (Or.inr (Or.inr (Or.inr (Or.inr (Or.inr (Or.inr (Or.inr (Or.inr (Or.inr (Or.inr (Or.inr (Or.inr (Or.inl (e15 z))))))))))))))))
    · exact Or.inr (Or.inr (Or.inr (Or.inr (Or.inr (Or.inr (Or.inr (Or.inr (Or.inr (Or.inr (Or.inr (Or.inr (Or.inr (Or.inr (Or.inr (Or.inr (Or.inl (e16 z)))))))))))))))))
    · exact Or.inr (Or.inr (Or.inr (Or.inr (Or.inr (Or.inr (Or.inr (Or.inr (Or.inr (Or.inr (Or.inr (Or.inr (Or.inr (Or.inr (Or.inr (Or.inr (Or.inr (Or.inl (e17 z))))))))))))))))))
    · exact Or.inr (Or.inr (Or.inr (Or.inr (Or.inr (Or.inr (Or.inr (Or.inr (Or.inr (Or.inr (Or.inr (Or.inr (Or.inr (Or.inr (Or.inr (Or.inr (Or.inr (Or.inr (Or.inl (e18 z)))))))))))))))))))
    · exact Or.inr (Or.inr (Or.inr (Or.inr (Or.inr (Or.inr (Or.inr (Or.inr (Or.inr (Or.inr (Or.inr (Or.inr (Or.inr (Or.inr (Or.inr (Or.inr (Or.inr (Or.inr (Or.inr (Or.inl (e19 z))))))))))))))))))))
    · exact Or.inr (Or.inr (Or.inr (Or.inr (Or.inr (Or.inr (Or.inr (Or.inr (Or.inr (Or.inr (Or.inr (Or.inr (Or.inr (Or.inr (Or.inr (Or.inr (Or.inr (Or.inr (Or.inr (Or.inr (Or.inl (e20 z)))))))))))))))))))))
    · exact Or.inr (Or.inr (Or.inr (Or.inr (Or.inr (Or.inr (Or.inr (Or.inr (Or.inr (Or.inr (Or.inr (Or.inr (Or.inr (Or.inr (Or.inr (Or.inr (Or.inr (Or.inr (Or.inr (Or.inr (Or.inr (Or.inl (e21 z))))))))))))))))))))))
    · exact Or.inr (Or.inr (Or.inr (Or.inr (Or.inr (Or.inr (Or.inr (Or.inr (Or.inr (Or.inr (Or.inr (Or.inr (Or.inr (Or.inr (Or.inr (Or.inr (Or.inr (Or.inr (Or.inr (Or.inr (Or.inr (Or.inr (Or.inl (e22 z)))))))))))))))))))))))
    · exact Or.inr (Or.inr (Or.inr (Or.inr (Or.inr (Or.inr (Or.inr (Or.inr (Or.inr (Or.inr (Or.inr (Or.inr (Or.inr (Or.inr (Or.inr (Or.inr (Or.inr (Or.inr (Or.inr (Or.inr (Or.inr (Or.inr (Or.inr (Or.inl (e23 z))))))))))))))))))))))))
    · exact Or.inr (Or.inr (Or.inr (Or.inr (Or.inr (Or.inr (Or.inr (Or.inr (Or.inr (Or.inr (Or.inr (Or.inr (Or.inr (Or.inr (Or.inr (Or.inr (Or.inr (Or.inr (Or.inr (Or.inr (Or.inr (Or.inr (Or.inr (Or.inr (Or.inl (e24 z)))))))))))))))))))))))))
    · exact Or.inr (Or.inr (Or.inr (Or.inr (Or.inr (Or.inr (Or.inr (Or.inr (Or.inr (Or.inr (Or.inr (Or.inr (Or.inr (Or.inr (Or.inr (Or.inr (Or.inr (Or.inr (Or.inr (Or.inr (Or.inr (Or.inr (Or.inr (Or.inr (Or.inr (Or.inl (e25 z))))))))))))))))))))))))))
    · exact Or.inr (Or.inr (Or.inr (Or.inr (Or.inr (Or.inr (Or.inr (Or.inr (Or.inr (Or.inr (Or.inr (Or.inr (Or.inr (Or.inr (Or.inr (Or.inr (Or.inr (Or.inr (Or.inr (Or.inr (Or.inr (Or.inr (Or.inr (Or.inr (Or.inr (Or.inr (Or.inl (e26 z)))))))))))))))))))))))))))
    · exact Or.inr (Or.inr (Or.inr (Or.inr (Or.inr (Or.inr (Or.inr (Or.inr (Or.inr (Or.inr (Or.inr (Or.inr (Or.inr (Or.inr (Or.inr (Or.inr (Or.inr (Or.inr (Or.inr (Or.inr (Or.inr (Or.inr (Or.inr (Or.inr (Or.inr (Or.inr (Or.inr (Or.inl (e27 z))))))))))))))))))))))))))))
    · exact Or.inr (Or.inr (Or.inr (Or.inr (Or.inr (Or.inr (Or.inr (Or.inr (Or.inr (Or.inr (Or.inr (Or.inr (Or.inr (Or.inr (Or.inr (Or.inr (Or.inr (Or.inr (Or.inr (Or.inr (Or.inr (Or.inr (Or.inr (Or.inr (Or.inr (Or.inr (Or.inr (Or.inr ((e28 z)))))))))))))))))))))))))))))
theorem lw_body {t i L : Nat} {xs : Nat → Int32} {s : ST} {m : MM} (ht : t + 1001 < 2 ^ 30) (hL : L ≤ 2560) (hi : i + 5 ≤ L) (S : SCR xs L m) (h : BO s m) (hI : INV t s) : OUTC t i 26 m := by
  obtain ⟨p0, q0⟩ := scr_ix (i := i) (j := 0) S hL (by omega)
  rw [Nat.add_zero] at p0 q0
  have b0 : go 169 26 [some (vr 0 (some 0)), some (vr 7 (some 0)), some (vr 8 (some 0)), some (vi (nI i))] [] m = go 169 32 [some (vr 0 (some 0)), some (vr 7 (some 0)), some (vr 8 (some 0)), some (vi (nI i))] [vi (xs i &&& 31)] m := by
    simp only [s169_26, s169_27, s169_28, s169_29, s169_31, eq_self, ixk_some, bd_some, nl_n, nl_i, nl_r, Option.toList_some, Option.toList_none, List.cons_append, List.nil_append, p0, q0]
  generalize xs i &&& 31 = a at b0
  rcases sw_cases a with e | e | e | e | e | e | e | e | e | e | e | e | e | e | e | e | e | e | e | e | e | e | e | e | e | e | e | e | e | e
  · exact ⟨m, s, by rw [b0, s169_32_d e], h, in_t hI (by omega), fb_rf m⟩
  · obtain ⟨m2, s2, r1, r2⟩ := lw_0 ht hL hi S h hI
    exact ⟨m2, s2, by rw [b0, e, s169_32_0]; exact r1, r2⟩
  · obtain ⟨m2, s2, r1, r2⟩ := lw_1 ht hL hi S h hI
    exact ⟨m2, s2, by rw [b0, e, s169_32_1]; exact r1, r2⟩
  · obtain ⟨m2, s2, r1, r2⟩ := lw_2 ht hL hi S h hI
    exact ⟨m2, s2, by rw [b0, e, s169_32_2]; exact r1, r2⟩
  · obtain ⟨m2, s2, r1, r2⟩ := lw_3 ht hL hi S h hI
    exact ⟨m2, s2, by rw [b0, e, s169_32_3]; exact r1, r2⟩
  · obtain ⟨m2, s2, r1, r2⟩ := lw_4 ht hL hi S h hI
    exact ⟨m2, s2, by rw [b0, e, s169_32_4]; exact r1, r2⟩
  · obtain ⟨m2, s2, r1, r2⟩ := lw_5 ht hL hi S h hI
    exact ⟨m2, s2, by rw [b0, e, s169_32_5]; exact r1, r2⟩
  · obtain ⟨m2, s2, r1, r2⟩ := lw_6 ht hL hi S h hI
    exact ⟨m2, s2, by rw [b0, e, s169_32_6]; exact r1, r2⟩
  · obtain ⟨m2, s2, r1, r2⟩ := lw_7 ht hL hi S h hI
    exact ⟨m2, s2, by rw [b0, e, s169_32_7]; exact r1, r2⟩
  · obtain ⟨m2, s2, r1, r2⟩ := lw_8 ht hL hi S h hI
    exact ⟨m2, s2, by rw [b0, e, s169_32_8]; exact r1, r2⟩
  · obtain ⟨m2, s2, r1, r2⟩ := lw_9 ht hL hi S h hI
    exact ⟨m2, s2, by rw [b0, e, s169_32_9]; exact r1, r2⟩
  · obtain ⟨m2, s2, r1, r2⟩ := lw_10 ht hL hi S h hI
    exact ⟨m2, s2, by rw [b0, e, s169_32_10]; exact r1, r2⟩
  · obtain ⟨m2, s2, r1, r2⟩ := lw_11 ht hL hi S h hI
    exact ⟨m2, s2, by rw [b0, e, s169_32_11]; exact r1, r2⟩
  · obtain ⟨m2, s2, r1, r2⟩ := lw_12 ht hL hi S h hI
    exact ⟨m2, s2, by rw [b0, e, s169_32_12]; exact r1, r2⟩
  · obtain ⟨m2, s2, r1, r2⟩ := lw_13 ht hL hi S h hI
    exact ⟨m2, s2, by rw [b0, e, s169_32_13]; exact r1, r2⟩
  · obtain ⟨m2, s2, r1, r2⟩ := lw_14 ht hL hi S h hI
    exact ⟨m2, s2, by rw [b0, e, s169_32_14]; exact r1, r2⟩
  · obtain ⟨m2, s2, r1, r2⟩ := lw_15 ht hL hi S h hI
    exact ⟨m2, s2, by rw [b0, e, s169_32_15]; exact r1, r2⟩
  · obtain ⟨m2, s2, r1, r2⟩ := lw_16 ht hL hi S h hI
    exact ⟨m2, s2, by rw [b0, e, s169_32_16]; exact r1, r2⟩
  · obtain ⟨m2, s2, r1, r2⟩ := lw_17 ht hL hi S h hI
    exact ⟨m2, s2, by rw [b0, e, s169_32_17]; exact r1, r2⟩
  · obtain ⟨m2, s2, r1, r2⟩ := lw_18 ht hL hi S h hI
    exact ⟨m2, s2, by rw [b0, e, s169_32_18]; exact r1, r2⟩
  · obtain ⟨m2, s2, r1, r2⟩ := lw_19 ht hL hi S h hI
    exact ⟨m2, s2, by rw [b0, e, s169_32_19]; exact r1, r2⟩
  · obtain ⟨m2, s2, r1, r2⟩ := lw_20 ht hL hi S h hI
    exact ⟨m2, s2, by rw [b0, e, s169_32_20]; exact r1, r2⟩
  · obtain ⟨m2, s2, r1, r2⟩ := lw_21 ht hL hi S h hI
    exact ⟨m2, s2, by rw [b0, e, s169_32_21]; exact r1, r2⟩
  · obtain ⟨m2, s2, r1, r2⟩ := lw_22 ht hL hi S h hI
    exact ⟨m2, s2, by rw [b0, e, s169_32_22]; exact r1, r2⟩
  · obtain ⟨m2, s2, r1, r2⟩ := lw_23 ht hL hi S h hI
    exact ⟨m2, s2, by rw [b0, e, s169_32_23]; exact r1, r2⟩
  · obtain ⟨m2, s2, r1, r2⟩ := lw_24 ht hL hi S h hI
    exact ⟨m2, s2, by rw [b0, e, s169_32_24]; exact r1, r2⟩
  · obtain ⟨m2, s2, r1, r2⟩ := lw_25 ht hL hi S h hI
    exact ⟨m2, s2, by rw [b0, e, s169_32_25]; exact r1, r2⟩
  · obtain ⟨m2, s2, r1, r2⟩ := lw_26 ht hL hi S h hI
    exact ⟨m2, s2, by rw [b0, e, s169_32_26]; exact r1, r2⟩
  · obtain ⟨m2, s2, r1, r2⟩ := lw_27 ht hL hi S h hI
    exact ⟨m2, s2, by rw [b0, e, s169_32_27]; exact r1, r2⟩
  · obtain ⟨m2, s2, r1, r2⟩ := lw_28 ht hL hi S h hI
    exact ⟨m2, s2, by rw [b0, e, s169_32_28]; exact r1, r2⟩
theorem nI_m5 {n : Nat} (h : n < 2 ^ 30) : (nI n - 5).toInt = (n : Int) - 5 := by
  rw [Int32.toInt_sub, nI_toInt (by omega)]
  have : (5 : Int32).toInt = 5 := by decide
  rw [this]
  exact Int.bmod_eq_of_le (by omega) (by omega)
theorem lw_loop {xs : Nat → Int32} {L : Nat} (hL : L ≤ 2560) : ∀ d i t (s : ST) (m : MM), L ≤ i + d → i ≤ 2565 → t + 1000 * d + 1001 < 2 ^ 30 → SCR xs L m → BO s m → INV t s → ∃ m' s', go 169 18 [some (vr 0 (some 0)), some (vr 7 (some 0)), some (vr 8 (some 0)), some (vi (nI i))] [] m = some (some (vi 1), m') ∧ BO s' m' ∧ fb m m' := by
  intro d
  induction d with
  | zero =>
    intro i t s m h1 h2 h3 S h hI
    have lt : nI L - 5 < nI i := Int32.lt_iff_toInt_lt.mpr (by rw [nI_m5 (by omega), nI_toInt (by omega)]; omega)
    refine ⟨m, s, ?_, h, fb_rf m⟩
    simp only [s169_18, s169_19, s169_20, s169_21, s169_22, s169_23, s169_1069, s169_1070b0, s169_1070b1, eq_self, ixk_some, bd_some, nl_n, nl_i, nl_r, Option.toList_some, Option.toList_none, List.cons_append, List.nil_append, S.1, if_pos lt]
  | succ d ih =>
    intro i t s m h1 h2 h3 S h hI
    by_cases c : L < i + 5
    · have lt : nI L - 5 < nI i := Int32.lt_iff_toInt_lt.mpr (by rw [nI_m5 (by omega), nI_toInt (by omega)]; omega)
      refine ⟨m, s, ?_, h, fb_rf m⟩
      simp only [s169_18, s169_19, s169_20, s169_21, s169_22, s169_23, s169_1069, s169_1070b0, s169_1070b1, eq_self, ixk_some, bd_some, nl_n, nl_i, nl_r, Option.toList_some, Option.toList_none, List.cons_append, List.nil_append, S.1, if_pos lt]
    · have nlt : ¬ nI L - 5 < nI i := fun z => by
        have := Int32.lt_iff_toInt_lt.mp z
        rw [nI_m5 (by omega), nI_toInt (by omega)] at this
        omega
      obtain ⟨m2, s2, r1, r2, r3, r4⟩ := lw_body (t := t) (i := i) (by omega) hL (by omega) S h hI
      obtain ⟨m', s', k1, k2, k3⟩ := ih (i + 5) (t + 1000) s2 m2 (by omega) (by omega) (by omega) (scr_fb S r4) r2 r3
      refine ⟨m', s', ?_, k2, fb_tr r4 k3⟩
      have st : go 169 18 [some (vr 0 (some 0)), some (vr 7 (some 0)), some (vr 8 (some 0)), some (vi (nI i))] [] m = go 169 26 [some (vr 0 (some 0)), some (vr 7 (some 0)), some (vr 8 (some 0)), some (vi (nI i))] [] m := by
        simp only [s169_18, s169_19, s169_20, s169_21, s169_22, s169_23, eq_self, ixk_some, bd_some, nl_n, nl_i, nl_r, Option.toList_some, Option.toList_none, List.cons_append, List.nil_append, S.1, if_neg nlt]
      have st2 : go 169 1063 [some (vr 0 (some 0)), some (vr 7 (some 0)), some (vr 8 (some 0)), some (vi (nI i))] [] m2 = go 169 18 [some (vr 0 (some 0)), some (vr 7 (some 0)), some (vr 8 (some 0)), some (vi (nI (i + 5)))] [] m2 := by
        rw [← iN5]
        simp only [s169_1063i, s169_1063r, s169_1063n, s169_1066, eq_self, ixk_some, bd_some, nl_n, nl_i, nl_r, Option.toList_some, Option.toList_none, List.cons_append, List.nil_append]
      rw [st, r1, st2]
      exact k1
theorem lw_run (xs : Nat → Int32) {L : Nat} (hL : L ≤ 2560) : ∃ m', go iLaw 0 [some (.inr (.inr (0, some 0))), none, none, none] [] (m0 xs L) = some (some (.inl 1), m') ∧ mT m' ≤ 600000 ∧ mS m' ≤ 7302249 := by
  have z7 : mC (m0 xs L) 7 = 0 := rfl
  have z8 : mC (iCl (m0 xs L)) 8 = 0 := iCl_C (Or.inl rfl)
  obtain ⟨m', s', k1, k2, k3⟩ := lw_loop (xs := xs) hL 2560 0 0 s00 (iRf (iCl (m0 xs L))) (by omega) (by omega) (by omega) SCR_init BO_init INV_init
  obtain ⟨t1, t2⟩ := T_init (xs := xs) (L := L)
  have t3 := BO_tC k2
  obtain ⟨-, -, f1, f2⟩ := k3
  refine ⟨m', ?_, by omega, by omega⟩
  have k1 : go 169 18 [some (vr 0 (some 0)), some (vr 7 (some 0)), some (vr 8 (some 0)), some (vi 0)] [] (iRf (iCl (m0 xs L))) = some (some (vi 1), m') := k1
  rw [← k1]
  simp only [s169_0, s169_3, s169_4, s169_7i, s169_7r, s169_7n, s169_8, s169_11, s169_12, s169_15i, s169_15r, s169_15n, s169_16, s169_17i, s169_17r, s169_17n, eq_self, ixk_some, bd_some, nl_n, nl_i, nl_r, Option.toList_some, Option.toList_none, List.cons_append, List.nil_append, z7, z8, go_initClass, go_initRef]
