/-! the reference: askOf -/
theorem cntF_end (P : Nat → Bool) : ∀ d i, cntF P (d + 1) i = cntF P d i + (if P (i + d) = true then 1 else 0)
  | 0, i => by
    show (if P i = true then 1 else 0) + 0 = 0 + (if P (i + 0) = true then 1 else 0)
    rw [Nat.add_zero, Nat.add_zero, Nat.zero_add]
  | d + 1, i => by
    show (if P i = true then 1 else 0) + cntF P (d + 1) (i + 1) = (if P i = true then 1 else 0) + cntF P d (i + 1) + _
    rw [cntF_end P d (i + 1), show i + 1 + d = i + (d + 1) by omega]
    omega
def nwM (m : MM) (k so : Nat) (a b : Int32) (v : Int64) : MM := sL (sI (sI (sI (sI (sI (sI (sI (sI (sI m 8 0 16 (nI (k + 1))) 32 0 k (nI so)) 33 0 k 0) 34 0 k 0) 35 0 k 0) 38 0 k 0) 39 0 k 0) 40 0 k a) 41 0 k b) 42 0 k v
theorem nwM_fs (m : MM) (k so : Nat) (a b : Int32) (v : Int64) : fs (fun r j => ((32 ≤ r ∧ r ≤ 42) ∧ r ≠ 36 ∧ r ≠ 37 ∧ j = k) ∨ (r = 8 ∧ j = 16)) m (nwM m k so a b v) := by
  unfold nwM
  refine fsL (fsI (fsI (fsI (fsI (fsI (fsI (fsI (fsI (fsI (fs_rf _ m) ?_) ?_) ?_) ?_) ?_) ?_) ?_) ?_) ?_) ?_
  · exact Or.inr ⟨rfl, rfl⟩
  all_goals exact Or.inl ⟨by decide, by decide, by decide, rfl⟩
theorem nwM_2 (m : MM) (k so : Nat) (a b : Int32) (v : Int64) : RR2 (ak0 so a b v) (nwM m k so a b v) k := by
  unfold nwM ak0 RR2
  refine ⟨?_, ?_, ?_, ?_, fun i x hx => ?_, fun i x hx => ?_, ?_, ?_, ?_, ?_, ?_⟩
  all_goals try simp only [mI_sI, mI_sL, mL_sI, mL_sL, Nat.reduceEqDiff, false_and, and_false, if_false, true_and, and_self, if_true]
  all_goals first | rfl | (simp [a_wy] at hx; done) | (simp [a_no] at hx; done)
theorem RR_new {s : ST} {m : MM} {so : Nat} {a b : Int32} {v : Int64} (h : RR s m) (hn : c_na s < 160) (hs : so ≤ 4) (hv : so = 4 → v = 0) : RR (c_ak_ (c_na_ s (c_na s + 1)) (up1 (c_ak s) (c_na s) (ak0 so a b v))) (nwM m (c_na s) so a b v) := by
  have F := nwM_fs m (c_na s) so a b v
  have A := nwM_2 m (c_na s) so a b v
  have e16 : mI (nwM m (c_na s) so a b v) 8 0 16 = nI (c_na s + 1) := rfl
  generalize nwM m (c_na s) so a b v = m1 at *
  obtain ⟨h1, h2, h3, h4, h5, h6, h7⟩ := h
  have q : ∀ r j, (((32 ≤ r ∧ r ≤ 42) ∧ r ≠ 36 ∧ r ≠ 37 ∧ j = c_na s) ∨ (r = 8 ∧ j = 16)) → (32 ≤ r ∧ r ≤ 42) ∨ (r = 8 ∧ j = 16) := fun r j z => by omega
  refine ⟨RRp_fs h1 F (fun r k z => by have := q r k z; omega), RRq_fs h2 F (fun r k z => by have := q r k z; omega), RRk_fs h3 F (fun r k z => by have := q r k z; omega), ?_, RRm_fs h5 F (fun r k z => by have := q r k z; omega), RRc_fs h6 F (fun r k z => by have := q r k z; omega), RRb_fs h7 F (fun r k z => by have := q r k z; omega) (fun g a _ => a) rfl⟩
  obtain ⟨k1, k2, k3, k4, k5, k6⟩ := h4
  have cnt : ∀ P : AK → Bool, P (ak0 so a b v) = false → cntF (fun j => P (up1 (c_ak s) (c_na s) (ak0 so a b v) j)) (c_na s + 1) 0 = cntF (fun j => P (c_ak s j)) (c_na s) 0 := by
    intro P hP
    rw [cntF_end]
    have : cntF (fun j => P (up1 (c_ak s) (c_na s) (ak0 so a b v) j)) (c_na s) 0 = cntF (fun j => P (c_ak s j)) (c_na s) 0 := by
      refine cntF_eq (n := c_na s) (c_na s) 0 (by omega) (fun j hj => ?_)
      show P (up1 (c_ak s) (c_na s) (ak0 so a b v) j) = P (c_ak s j)
      rw [show up1 (c_ak s) (c_na s) (ak0 so a b v) j = c_ak s j from if_neg (by omega)]
    rw [this]
    show _ + (if P (up1 (c_ak s) (c_na s) (ak0 so a b v) (0 + c_na s)) = true then 1 else 0) = _
    rw [Nat.zero_add, up1_get, hP]
    simp
  have nn : ∀ r j, ¬ (((32 ≤ r ∧ r ≤ 42) ∧ r ≠ 36 ∧ r ≠ 37 ∧ j = c_na s) ∨ (r = 8 ∧ j = 16)) → mI m1 r 0 j = mI m r 0 j ∧ mL m1 r 0 j = mL m r 0 j := fun r j z => F.1 r 0 j z
  refine ⟨?_, e16, ?_, ?_, fun j hj => ?_, fun j hj => ?_⟩
  · show c_na s + 1 ≤ 160; omega
  · rw [(nn 8 17 (by omega)).1, k3]
    show _ = nI (cntF (fun j => a_dn (up1 (c_ak s) (c_na s) (ak0 so a b v) j)) (c_na s + 1) 0)
    rw [cnt a_dn rfl]
  · rw [(nn 8 18 (by omega)).1, k4]
    show _ = nI (cntF (fun j => a_lt (up1 (c_ak s) (c_na s) (ak0 so a b v) j)) (c_na s + 1) 0)
    rw [cnt a_lt rfl]
  · have hj : j < c_na s + 1 := hj
    show RR2 (up1 (c_ak s) (c_na s) (ak0 so a b v) j) m1 j
    by_cases e : j = c_na s
    · rw [e, up1_get]; exact A
    · rw [show up1 (c_ak s) (c_na s) (ak0 so a b v) j = c_ak s j from if_neg e]
      obtain ⟨g1, g2, g3, g4, g5, g6, g7, g8, g9, g10, g11⟩ := k5 j (by omega)
      have n := fun r => nn r j
      exact ⟨by rw [(n 32 (by omega)).1]; exact g1, by rw [(n 33 (by omega)).1]; exact g2, by rw [(n 34 (by omega)).1]; exact g3, by rw [(n 35 (by omega)).1]; exact g4, fun i x hx => by rw [(nn 36 _ (by omega)).1]; exact g5 i x hx, fun i x hx => by rw [(nn 37 _ (by omega)).1]; exact g6 i x hx, by rw [(n 38 (by omega)).1]; exact g7, by rw [(n 39 (by omega)).1]; exact g8, by rw [(n 40 (by omega)).1]; exact g9, by rw [(n 41 (by omega)).1]; exact g10, by rw [(n 42 (by omega)).2]; exact g11⟩
  · have hj : j < c_na s + 1 := hj
    show AKo (up1 (c_ak s) (c_na s) (ak0 so a b v) j)
    by_cases e : j = c_na s
    · rw [e, up1_get]
      exact ⟨hs, by show 0 < 2 ^ 30; decide, by show 0 < 2 ^ 30; decide, rfl, rfl, (fun z => by cases z), fun z _ => hv z⟩
    · rw [show up1 (c_ak s) (c_na s) (ak0 so a b v) j = c_ak s j from if_neg e]
      exact k6 j (by omega)
theorem RR_ev {s : ST} {m : MM} {a : Int32} (h : RR s m) (hl : (c_ev s).length < 16) : RR (c_ev_ s (c_ev s ++ [a])) (sI (sI m 31 0 (c_ev s).length a) 8 0 14 (nI ((c_ev s).length + 1))) ∧ fs QW m (sI (sI m 31 0 (c_ev s).length a) 8 0 14 (nI ((c_ev s).length + 1))) := by
  have F : fs (fun r k => r = 31 ∨ (r = 8 ∧ k = 14)) m (sI (sI m 31 0 (c_ev s).length a) 8 0 14 (nI ((c_ev s).length + 1))) := fsI (fsI (fs_rf _ m) (Or.inl rfl)) (Or.inr ⟨rfl, rfl⟩)
  obtain ⟨h1, h2, h3, h4, h5, h6, h7⟩ := h
  refine ⟨⟨RRp_fs h1 F (fun r k z => by omega), RRq_fs h2 F (fun r k z => by omega), ⟨h3.1, ?_, ?_, fun i x hx => ?_⟩, RRa_fs h4 F (fun r k z => by omega), RRm_fs h5 F (fun r k z => by omega), RRc_fs h6 F (fun r k z => by omega), RRb_fs h7 F (fun r k z => by omega) (fun g a _ => a) rfl⟩, fs_le F (fun r k z => by unfold QW; omega)⟩
  · show nI _ = nI (c_ev s ++ [a]).length
    simp
  · show (c_ev s ++ [a]).length ≤ 16
    simp
    omega
  · have hx : (c_ev s ++ [a])[i]? = some x := hx
    rw [mI_ne (by omega), mI_sI]
    by_cases hi : i < (c_ev s).length
    · rw [List.getElem?_append_left hi] at hx
      rw [if_neg (by omega)]
      exact h3.2.2.2 i x hx
    · rw [List.getElem?_append_right (by omega)] at hx
      by_cases h9 : i - (c_ev s).length = 0
      · rw [h9] at hx
        have : a = x := by simpa using hx
        rw [if_pos ⟨rfl, rfl, by omega⟩]
        exact this
      · rw [List.getElem?_eq_none (by simp; omega)] at hx
        cases hx
theorem rr_askOf {s : ST} {m : MM} {so i : Nat} {a b : Int32} {v : Int64} (h : RR s m) (hi : i < c_n s) (hs : so ≤ 4) (hv : so = 4 → v = 0) (hl : (c_ms s).length < 192) :
    ∃ m', go 137 0 [some (vr 8 (some 0)), some (vi (nI so)), some (vi (nI i)), some (vi a), some (vi b), some (vl v), none, none, none] [] m = some (some (vi (askOf s so i a b v).1), m') ∧ RR (askOf s so i a b v).2 m' ∧ fs QW m m' := by
  have h32 := h.1.2.2.1
  have hx := h.1.1
  have hn := h.1.2.1
  have gb := (h.1.2.2.2.2.2 i hi).2.2.1
  have bb := h.1.2.2.2.2.1 i hi
  have i21 := ixN (FN_21 hn) (i := i) (by omega) (by decide)
  have k14 := h.2.2.1.2.1
  have h16 := h.2.2.1.2.2.1
  have k16 := h.2.2.2.1.2.1
  have h160 := h.2.2.2.1.1
  rw [askOf_eq]
  by_cases hb : c_be s i = 2
  · rw [if_neg (fun z => z hb)]
    rw [hb, show nI 2 = 2 from rfl] at gb
    have base : ∀ r, go 137 66 [some (vr 8 (some 0)), some (vi (nI so)), some (vi (nI i)), some (vi a), some (vi b), some (vl v), none, some (vi (b2 (so == 3 && !(c_ev s).contains a))), some (vi (nI (c_ev s).length))] [] m = r → go 137 0 [some (vr 8 (some 0)), some (vi (nI so)), some (vi (nI i)), some (vi a), some (vi b), some (vl v), none, none, none] [] m = r := by
      intro r hr
      have L := ev_loop (a0 := nI so) (a2 := nI i) (a3 := a) (a4 := b) (v := v) h.1 h.2.2.1 (c_ev s) 0 (so == 3) (by simp) (Nat.zero_le _)
      rw [← hr, ← L]
      by_cases e : so = 3
      · subst e
        rw [show nI 3 = 3 from rfl]
        simp [s137_0, s137_1, s137_4, s137_5, s137_6, s137_7, s137_13, s137_14, s137_15, s137_18, s137_19, s137_23i, s137_23r, s137_23n, s137_25, s137_26i, s137_26r, s137_26n, eq_self, ixk_some, bd_some, nl_n, nl_i, nl_r, Option.toList_some, Option.toList_none, List.cons_append, List.nil_append, FX_2 hx, FX_3 hx, FX_4 hx, FX_5 hx, FX_6 hx, FX_7 hx, FX_8 hx, FX_9 hx, FX_10 hx, FX_11 hx, FX_12 hx, FX_13 hx, FX_15 hx, FX_19 hx, FX_20 hx, FX_21 hx, FX_22 hx, FX_23 hx, FX_24 hx, FX_25 hx, FX_26 hx, FX_27 hx, FX_28 hx, FX_29 hx, FX_31 hx, FX_32 hx, FX_33 hx, FX_34 hx, FX_35 hx, FX_36 hx, FX_37 hx, FX_39 hx, FX_40 hx, i21, gb, b2]
        rfl
      · have ne : ¬ nI so = 3 := fun z => e ((nI_eq (by omega) (by omega)).mp (show nI so = nI 3 from z))
        have nb : (so == 3) = false := by simp [e]
        rw [nb]
        simp [s137_0, s137_1, s137_4, s137_5, s137_6, s137_7, s137_13, s137_14, s137_15, s137_22, s137_23i, s137_23r, s137_23n, s137_25, s137_26i, s137_26r, s137_26n, eq_self, ixk_some, bd_some, nl_n, nl_i, nl_r, Option.toList_some, Option.toList_none, List.cons_append, List.nil_append, FX_2 hx, FX_3 hx, FX_4 hx, FX_5 hx, FX_6 hx, FX_7 hx, FX_8 hx, FX_9 hx, FX_10 hx, FX_11 hx, FX_12 hx, FX_13 hx, FX_15 hx, FX_19 hx, FX_20 hx, FX_21 hx, FX_22 hx, FX_23 hx, FX_24 hx, FX_25 hx, FX_26 hx, FX_27 hx, FX_28 hx, FX_29 hx, FX_31 hx, FX_32 hx, FX_33 hx, FX_34 hx, FX_35 hx, FX_36 hx, FX_37 hx, FX_39 hx, FX_40 hx, i21, gb, ne, b2]
        rfl
    have mk : ∀ s1 m1 a7 a8, RR s1 m1 → fs QW m m1 → c_na s1 = c_na s → c_ak s1 = c_ak s → c_ms s1 = c_ms s → c_na s < 160 → ∃ m', go 137 118 [some (vr 8 (some 0)), some (vi (nI so)), some (vi (nI i)), some (vi a), some (vi b), some (vl v), none, some (vi a7), some (vi a8)] [] m1 = some (some (vi (nI (c_na s))), m') ∧ RR (snda (c_ak_ (c_na_ s1 (c_na s + 1)) (up1 (c_ak s) (c_na s) (ak0 so a b v))) (c_na s) i) m' ∧ fs QW m m' := by
      intro s1 m1 a7 a8 R1 F1 q1 q2 q3 hlt
      have R2 := RR_new (so := so) (a := a) (b := b) (v := v) R1 (by rw [q1]; exact hlt) hs hv
      rw [q1, q2] at R2
      have F2 := nwM_fs m1 (c_na s) so a b v
      have k16' := R1.2.2.2.1.2.1
      rw [q1] at k16'
      have hx1 := R1.1.1
      have hn1 := R1.1.2.1
      have e1 : a_so (c_ak (c_ak_ (c_na_ s1 (c_na s + 1)) (up1 (c_ak s) (c_na s) (ak0 so a b v))) (c_na s)) = so := by
        show a_so (up1 (c_ak s) (c_na s) (ak0 so a b v) (c_na s)) = so
        rw [up1_get]
        rfl
      obtain ⟨m3, d1, d2, d3⟩ := rr_sendA (k := c_na s) (p := i) R2 (by show c_na s < c_na s + 1; omega) (by show (c_ms s1).length < 192; rw [q3]; exact hl)
      rw [e1] at d1
      refine ⟨m3, ?_, d2, fs_tr F1 (fs_tr (fs_le F2 (fun r k z => by unfold QW; omega)) d3)⟩
      have j32 := ixN (FN_32 hn1) (i := c_na s) (by omega) (by decide)
      have j33 := ixN (FN_33 hn1) (i := c_na s) (by omega) (by decide)
      have j34 := ixN (FN_34 hn1) (i := c_na s) (by omega) (by decide)
      have j35 := ixN (FN_35 hn1) (i := c_na s) (by omega) (by decide)
      have j38 := ixN (FN_38 hn1) (i := c_na s) (by omega) (by decide)
      have j39 := ixN (FN_39 hn1) (i := c_na s) (by omega) (by decide)
      have j40 := ixN (FN_40 hn1) (i := c_na s) (by omega) (by decide)
      have j41 := ixN (FN_41 hn1) (i := c_na s) (by omega) (by decide)
      have j42 := ixN (FN_42 hn1) (i := c_na s) (by omega) (by decide)
      have sl : nI (c_na s) + 1 = nI (c_na s + 1) := nI_1 _
      have ed : sL (sI (sI (sI (sI (sI (sI (sI (sI (sI m1 8 0 16 (nI (c_na s + 1))) 32 0 (c_na s) (nI so)) 33 0 (c_na s) 0) 34 0 (c_na s) 0) 35 0 (c_na s) 0) 38 0 (c_na s) 0) 39 0 (c_na s) 0) 40 0 (c_na s) a) 41 0 (c_na s) b) 42 0 (c_na s) v = nwM m1 (c_na s) so a b v := rfl
      have hx := hx1
      simp only [s137_118, s137_119, s137_122i, s137_122r, s137_122n, s137_124, s137_125, s137_126, s137_129, s137_130, s137_131, s137_134, s137_135, s137_138, s137_140, s137_141, s137_142, s137_143, s137_146, s137_148, s137_149b0, s137_149b1, s137_150, s137_151, s137_154, s137_156, s137_157, s137_158, s137_159, s137_162, s137_164, s137_165, s137_166, s137_167, s137_170, s137_172, s137_173, s137_174, s137_175, s137_178, s137_180, s137_181b0, s137_181b1, s137_182, s137_183, s137_186, s137_188, s137_189, s137_190, s137_191, s137_194, s137_196, s137_198, s137_199, s137_200, s137_203, s137_205, s137_207, s137_208, s137_209, s137_210, s137_211, s137_213, s137_215, s137_216, s137_218, s137_220, s137_223, s137_225, eq_self, ixk_some, bd_some, nl_n, nl_i, nl_r, Option.toList_some, Option.toList_none, List.cons_append, List.nil_append, mR_sI, mN_sI, FX_2 hx, FX_3 hx, FX_4 hx, FX_5 hx, FX_6 hx, FX_7 hx, FX_8 hx, FX_9 hx, FX_10 hx, FX_11 hx, FX_12 hx, FX_13 hx, FX_15 hx, FX_19 hx, FX_20 hx, FX_21 hx, FX_22 hx, FX_23 hx, FX_24 hx, FX_25 hx, FX_26 hx, FX_27 hx, FX_28 hx, FX_29 hx, FX_31 hx, FX_32 hx, FX_33 hx, FX_34 hx, FX_35 hx, FX_36 hx, FX_37 hx, FX_39 hx, FX_40 hx, k16', sl, j32, j33, j34, j35, j38, j39, j40, j41, j42, ed, d1]
    have e160 : nI (c_na s) = 160 ↔ c_na s = 160 := nI_eq (a := c_na s) (b := 160) (by omega) (by omega)
    have e16 : nI (c_ev s).length = 16 ↔ (c_ev s).length = 16 := nI_eq (a := (c_ev s).length) (b := 16) (by omega) (by omega)
    by_cases hn160 : c_na s = 160
    · rw [if_pos (Or.inl hn160)]
      refine ⟨m, base _ ?_, h, fs_rf _ _⟩
      simp [s137_66, s137_67, s137_70, s137_73, s137_90, s137_92, eq_self, ixk_some, bd_some, nl_n, nl_i, nl_r, Option.toList_some, Option.toList_none, List.cons_append, List.nil_append, k16, e160.mpr hn160]
    · have n160 : ¬ nI (c_na s) = 160 := fun z => hn160 (e160.mp z)
      cases hf : (so == 3 && !(c_ev s).contains a)
      · rw [hf, b2_f] at base
        rw [if_neg (fun z => by rcases z with z | z; exact hn160 z; cases z.1)]
        have ek : (if so = 3 then keyd s a else s) = s := by
          by_cases e : so = 3
          · rw [if_pos e]
            unfold keyd
            have : (c_ev s).contains a = true := by
              cases hc : (c_ev s).contains a
              · rw [e, hc] at hf; cases hf
              · rfl
            rw [this]
            rfl
          · rw [if_neg e]
        rw [ek]
        obtain ⟨m2, d1, d2, d3⟩ := mk s m 0 (nI (c_ev s).length) h (fs_rf _ _) rfl rfl rfl (by omega)
        refine ⟨m2, base _ ?_, d2, d3⟩
        rw [← d1]
        simp [s137_66, s137_67, s137_70, s137_73, s137_76, s137_78, s137_93, s137_95, eq_self, ixk_some, bd_some, nl_n, nl_i, nl_r, Option.toList_some, Option.toList_none, List.cons_append, List.nil_append, k16, n160]
      · rw [hf, b2_t] at base
        have hso : so = 3 := by
          by_cases e : so = 3
          · exact e
          · have : (so == 3) = false := by simp [e]
            rw [this] at hf; cases hf
        have hcn : (c_ev s).contains a = false := by
          cases hc : (c_ev s).contains a
          · rfl
          · rw [hc, Bool.not_true, Bool.and_false] at hf; cases hf
        by_cases hl16 : (c_ev s).length = 16
        · rw [if_pos (Or.inr ⟨rfl, hl16⟩)]
          refine ⟨m, base _ ?_, h, fs_rf _ _⟩
          have x10 : ¬ (1 : Int32) = 0 := by decide
          simp [s137_66, s137_67, s137_70, s137_73, s137_76, s137_78, s137_81, s137_82, s137_85, s137_87, s137_90, s137_92, eq_self, ixk_some, bd_some, nl_n, nl_i, nl_r, Option.toList_some, Option.toList_none, List.cons_append, List.nil_append, k16, n160, k14, e16.mpr hl16]
        · have n16 : ¬ nI (c_ev s).length = 16 := fun z => hl16 (e16.mp z)
          rw [if_neg (fun z => by rcases z with z | z; exact hn160 z; exact hl16 z.2)]
          have ek : (if so = 3 then keyd s a else s) = c_ev_ s (c_ev s ++ [a]) := by
            rw [if_pos hso]
            unfold keyd
            rw [hcn, if_neg (by decide), if_neg hl16]
          rw [ek]
          obtain ⟨R1, F1⟩ := RR_ev (a := a) h (by omega)
          obtain ⟨m2, d1, d2, d3⟩ := mk _ _ 1 (nI (c_ev s).length) R1 F1 rfl rfl rfl (by omega)
          refine ⟨m2, base _ ?_, d2, d3⟩
          rw [← d1]
          have i31 := ixN (FN_31 hn) (i := (c_ev s).length) (by omega) (by decide)
          have k14' : mI (sI m 31 0 (c_ev s).length a) 8 0 14 = nI (c_ev s).length := k14
          have sl : nI (c_ev s).length + 1 = nI ((c_ev s).length + 1) := nI_1 _
          simp [s137_66, s137_67, s137_70, s137_73, s137_76, s137_78, s137_81, s137_82, s137_85, s137_87, s137_93, s137_95, s137_98, s137_99, s137_102, s137_103, s137_106, s137_107, s137_108, s137_109, s137_110, s137_113, s137_114, s137_115, eq_self, ixk_some, bd_some, nl_n, nl_i, nl_r, Option.toList_some, Option.toList_none, List.cons_append, List.nil_append, mR_sI, mN_sI, FX_2 hx, FX_3 hx, FX_4 hx, FX_5 hx, FX_6 hx, FX_7 hx, FX_8 hx, FX_9 hx, FX_10 hx, FX_11 hx, FX_12 hx, FX_13 hx, FX_15 hx, FX_19 hx, FX_20 hx, FX_21 hx, FX_22 hx, FX_23 hx, FX_24 hx, FX_25 hx, FX_26 hx, FX_27 hx, FX_28 hx, FX_29 hx, FX_31 hx, FX_32 hx, FX_33 hx, FX_34 hx, FX_35 hx, FX_36 hx, FX_37 hx, FX_39 hx, FX_40 hx, k16, n160, k14, n16, i31, k14', sl]
  · rw [if_pos hb]
    refine ⟨m, ?_, h, fs_rf _ _⟩
    have n2 : ¬ nI (c_be s i) = 2 := be_ne2 bb hb
    simp [s137_0, s137_1, s137_4, s137_5, s137_6, s137_7, s137_10, s137_12, eq_self, ixk_some, bd_some, nl_n, nl_i, nl_r, Option.toList_some, Option.toList_none, List.cons_append, List.nil_append, FX_2 hx, FX_3 hx, FX_4 hx, FX_5 hx, FX_6 hx, FX_7 hx, FX_8 hx, FX_9 hx, FX_10 hx, FX_11 hx, FX_12 hx, FX_13 hx, FX_15 hx, FX_19 hx, FX_20 hx, FX_21 hx, FX_22 hx, FX_23 hx, FX_24 hx, FX_25 hx, FX_26 hx, FX_27 hx, FX_28 hx, FX_29 hx, FX_31 hx, FX_32 hx, FX_33 hx, FX_34 hx, FX_35 hx, FX_36 hx, FX_37 hx, FX_39 hx, FX_40 hx, i21, gb, n2]
