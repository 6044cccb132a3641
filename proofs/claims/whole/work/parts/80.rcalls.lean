/-! the reference: peer, drawn, asks -/
theorem RR_dr {s : ST} {m : MM} {v : Int32} (h : RR s m) : RR (c_dr_ s v) (sI m 8 0 1 v) ∧ fs QW m (sI m 8 0 1 v) := by
  have F : fs (fun r k => r = 8 ∧ k = 1) m (sI m 8 0 1 v) := fs1
  obtain ⟨h1, h2, h3, h4, h5, h6, h7⟩ := h
  exact ⟨⟨RRp_fs h1 F (fun r k z => by omega), RRq_fs h2 F (fun r k z => by omega), ⟨rfl, h3.2.1, h3.2.2.1, h3.2.2.2⟩, RRa_fs h4 F (fun r k z => by omega), RRm_fs h5 F (fun r k z => by omega), RRc_fs h6 F (fun r k z => by omega), RRb_fs h7 F (fun r k z => by omega) (fun g a _ => a) rfl⟩, fs_le F (fun r k z => Or.inl z.1)⟩
theorem n_32 {n : Nat} (h : n ≤ 32) : nI n = 32 ↔ n = 32 := nI_eq (a := n) (b := 32) (by omega) (by omega)
theorem rr_peer {s : ST} {m : MM} {name b : Int32} (h : RR s m) : ∃ m', go 109 0 [some (vr 8 (some 0)), some (vi name), some (vi b)] [] m = some (some (vi (o_peer s name b).1), m') ∧ RR (o_peer s name b).2 m' ∧ fs QW m m' := by
  have a1 := rr_isName (name := name) h.1
  have h32 := h.1.2.2.1
  have h0 := h.1.2.2.2.1
  have b0 := go_in (m := m) (v := b.toInt64) (a := 0) (b := 255)
  rw [t64, show (0 : Int64).toInt = 0 by decide, show (255 : Int64).toInt = 255 by decide] at b0
  have hb : (0 ≤ b.toInt ∧ b.toInt ≤ 255) ↔ (0 ≤ b ∧ b ≤ 255) := by
    rw [Int32.le_iff_toInt_le, Int32.le_iff_toInt_le]
    exact Iff.rfl
  unfold o_peer
  cases hi : isNm s name
  · rw [hi, b2_f] at a1
    by_cases hb' : 0 ≤ b ∧ b ≤ 255
    · rw [decide_eq_true (hb.mpr hb'), b2_t] at b0
      rw [if_neg (by simp [hb'])]
      by_cases hn : c_n s = 32
      · rw [if_pos hn]
        refine ⟨m, ?_, h, fs_rf _ _⟩
        have := (n_32 h32).mpr hn
        simp [s109_0, s109_1, s109_2, s109_5, s109_8, s109_9, s109_10, s109_11, s109_14, s109_17, s109_20, s109_21, s109_22, s109_23, s109_26, s109_28, s109_31, s109_33, s109_36, s109_37, s109_38, s109_39, s109_42, eq_self, ixk_some, bd_some, nl_n, nl_i, nl_r, Option.toList_some, Option.toList_none, List.cons_append, List.nil_append, a1, b0, h0, this]
      · rw [if_neg hn]
        have n' : ¬ nI (c_n s) = 32 := fun z => hn ((n_32 h32).mp z)
        obtain ⟨m1, d1, d2, d3⟩ := rr_made (name := name) (b := b) h (by omega)
        refine ⟨m1, ?_, d2, d3⟩
        simp [s109_0, s109_1, s109_2, s109_5, s109_8, s109_9, s109_10, s109_11, s109_14, s109_17, s109_20, s109_21, s109_22, s109_23, s109_26, s109_28, s109_31, s109_33, s109_36, s109_37, s109_38, s109_39, s109_42, eq_self, ixk_some, bd_some, nl_n, nl_i, nl_r, Option.toList_some, Option.toList_none, List.cons_append, List.nil_append, a1, b0, h0, n', d1]
    · rw [decide_eq_false (fun z => hb' (hb.mp z)), b2_f] at b0
      rw [if_pos (Or.inr hb')]
      refine ⟨m, ?_, h, fs_rf _ _⟩
      simp [s109_0, s109_1, s109_2, s109_5, s109_8, s109_9, s109_10, s109_11, s109_14, s109_17, s109_20, s109_21, s109_22, s109_23, s109_26, s109_28, s109_31, s109_33, s109_36, s109_37, s109_38, s109_39, s109_42, eq_self, ixk_some, bd_some, nl_n, nl_i, nl_r, Option.toList_some, Option.toList_none, List.cons_append, List.nil_append, a1, b0]
  · rw [hi, b2_t] at a1
    rw [if_pos (Or.inl rfl)]
    refine ⟨m, ?_, h, fs_rf _ _⟩
    simp [s109_0, s109_1, s109_2, s109_5, s109_8, s109_9, s109_10, s109_11, s109_14, s109_17, s109_20, s109_21, s109_22, s109_23, s109_26, s109_28, s109_31, s109_33, s109_36, s109_37, s109_38, s109_39, s109_42, eq_self, ixk_some, bd_some, nl_n, nl_i, nl_r, Option.toList_some, Option.toList_none, List.cons_append, List.nil_append, a1]
theorem rr_drawn1 {s : ST} {m : MM} {name d : Int32} (h : RR s m) (hlt : c_n s < 32) : ∃ m', go 106 0 [some (vr 8 (some 0)), some (vi name), some (vi (d >>> (16 &&& 31) &&& 255)), none] [] (sI m 8 0 1 d) = some (some (vi (nI (c_n s))), m') ∧ RR (made (c_dr_ s d) name (d >>> (16 &&& 31) &&& 255)) m' ∧ fs QW m m' ∧ mI (sI m 8 0 1 d) 8 0 1 = d := by
  obtain ⟨R1, F1⟩ := RR_dr (v := d) h
  obtain ⟨m1, d1, d2, d3⟩ := rr_made (name := name) (b := d >>> (16 &&& 31) &&& 255) R1 (by rw [C_n_dr]; exact hlt)
  rw [C_n_dr] at d1
  exact ⟨m1, d1, d2, fs_tr F1 d3, by rw [mI_sI, if_pos ⟨rfl, rfl, rfl⟩]⟩
theorem rr_drawn {s : ST} {m : MM} {name : Int32} (h : RR s m) : ∃ m', go 110 0 [some (vr 8 (some 0)), some (vi name)] [] m = some (some (vi (o_drawn s name).1), m') ∧ RR (o_drawn s name).2 m' ∧ fs QW m m' := by
  have a1 := rr_isName (name := name) h.1
  have h32 := h.1.2.2.1
  have h0 := h.1.2.2.2.1
  have k1 := h.2.2.1.1
  unfold o_drawn
  cases hi : isNm s name
  · rw [hi, b2_f] at a1
    simp only [Bool.false_eq_true, if_false]
    by_cases hn : c_n s = 32
    · rw [if_pos hn]
      refine ⟨m, ?_, h, fs_rf _ _⟩
      have := (n_32 h32).mpr hn
      simp [s110_0, s110_1, s110_2, s110_5, s110_8, s110_9, s110_10, s110_11, s110_14, s110_16, s110_19, s110_21, s110_22, s110_23, s110_24, s110_27, s110_29, s110_30, s110_33, s110_34, s110_37, s110_38, s110_39, s110_40, s110_43, s110_45, s110_46, s110_49, s110_50, s110_53, eq_self, ixk_some, bd_some, nl_n, nl_i, nl_r, Option.toList_some, Option.toList_none, List.cons_append, List.nil_append, a1, h0, this]
    · rw [if_neg hn]
      have n' : ¬ nI (c_n s) = 32 := fun z => hn ((n_32 h32).mp z)
      obtain ⟨m1, d1, d2, d3, e1⟩ := rr_drawn1 (name := name) (d := c_dr s * 1103515245 + 12345) h (by omega)
      refine ⟨m1, ?_, d2, d3⟩
      simp only [s110_0, s110_1, s110_2, s110_5, s110_8, s110_9, s110_10, s110_11, s110_14, s110_16, s110_19, s110_21, s110_22, s110_23, s110_24, s110_27, s110_29, s110_30, s110_33, s110_34, s110_37, s110_38, s110_39, s110_40, s110_43, s110_45, s110_46, s110_49, s110_50, s110_53, eq_self, ixk_some, bd_some, nl_n, nl_i, nl_r, Option.toList_some, Option.toList_none, List.cons_append, List.nil_append, a1, if_true, h0, n', not_false_eq_true, k1, e1, d1]
  · rw [hi, b2_t] at a1
    simp only [if_true]
    refine ⟨m, ?_, h, fs_rf _ _⟩
    simp [s110_0, s110_1, s110_2, s110_5, s110_8, s110_9, s110_10, s110_11, s110_14, s110_16, s110_19, s110_21, s110_22, s110_23, s110_24, s110_27, s110_29, s110_30, s110_33, s110_34, s110_37, s110_38, s110_39, s110_40, s110_43, s110_45, s110_46, s110_49, s110_50, s110_53, eq_self, ixk_some, bd_some, nl_n, nl_i, nl_r, Option.toList_some, Option.toList_none, List.cons_append, List.nil_append, a1]
theorem ev_loop {s : ST} {m : MM} {a0 a2 a3 a4 : Int32} {v : Int64} (hp : RRp s m) (h : RRk s m) : ∀ (r : List Int32) (i : Nat) (f : Bool), (c_ev s).drop i = r → i ≤ (c_ev s).length →
    go 137 28 [some (vr 8 (some 0)), some (vi a0), some (vi a2), some (vi a3), some (vi a4), some (vl v), none, some (vi (b2 f)), some (vi (nI i))] [] m = go 137 66 [some (vr 8 (some 0)), some (vi a0), some (vi a2), some (vi a3), some (vi a4), some (vl v), none, some (vi (b2 (f && !r.contains a3))), some (vi (nI (c_ev s).length))] [] m := by
  obtain ⟨hx, hn, -⟩ := hp
  obtain ⟨k0, k1, k2, k3⟩ := h
  intro r
  induction r with
  | nil => 
    intro i f hi hle
    have : (c_ev s).length ≤ i := by
      have := congrArg List.length hi
      rw [List.length_drop] at this
      simp at this
      omega
    have hi2 : i = (c_ev s).length := by omega
    rw [s137_28]
    simp only [s137_30, s137_31, s137_34, eq_self, ixk_some, bd_some, nl_n, nl_i, nl_r, Option.toList_some, Option.toList_none, List.cons_append, List.nil_append, k1]
    rw [if_pos (nI_le this (by omega)), hi2]
    simp
  | cons q r ih => 
    intro i f hi hle
    have hlt : i < (c_ev s).length := by
      have := congrArg List.length hi
      rw [List.length_drop] at this
      simp at this
      omega
    have hq : (c_ev s)[i]? = some q := by
      have := congrArg List.head? hi
      rw [List.head?_drop] at this
      exact this
    have hr : (c_ev s).drop (i + 1) = r := by
      rw [← List.drop_drop, hi]
      rfl
    have i31 := ixN (FN_31 hn) (i := i) (by omega) (by decide)
    have gq := k3 i q hq
    have s1 : nI i + 1 = nI (i + 1) := nI_1 i
    have ihf := ih (i + 1) false hr (by omega)
    have iht := ih (i + 1) true hr (by omega)
    rw [b2_f] at ihf
    rw [b2_t] at iht
    rw [s137_28]
    simp only [s137_30, s137_31, s137_34, eq_self, ixk_some, bd_some, nl_n, nl_i, nl_r, Option.toList_some, Option.toList_none, List.cons_append, List.nil_append, k1]
    rw [if_neg (nI_ge hlt (by omega))]
    cases f
    · simp only [b2_f, s137_37, s137_39, s137_57, s137_58i, s137_58r, s137_58n, s137_60i, s137_60r, s137_60n, s137_63, eq_self, ixk_some, bd_some, nl_n, nl_i, nl_r, Option.toList_some, Option.toList_none, List.cons_append, List.nil_append, if_true, s1, ihf]
      simp
    · have x10 : ¬ (1 : Int32) = 0 := by decide
      by_cases e : q = a3
      · subst e
        simp only [b2_t, s137_37, s137_39, s137_42, s137_43, s137_46, s137_48, s137_49, s137_50, s137_57, s137_58i, s137_58r, s137_58n, s137_60i, s137_60r, s137_60n, s137_63, eq_self, ixk_some, bd_some, nl_n, nl_i, nl_r, Option.toList_some, Option.toList_none, List.cons_append, List.nil_append, x10, if_false, FX_2 hx, FX_3 hx, FX_4 hx, FX_5 hx, FX_6 hx, FX_7 hx, FX_8 hx, FX_9 hx, FX_10 hx, FX_11 hx, FX_12 hx, FX_13 hx, FX_15 hx, FX_19 hx, FX_20 hx, FX_21 hx, FX_22 hx, FX_23 hx, FX_24 hx, FX_25 hx, FX_26 hx, FX_27 hx, FX_28 hx, FX_29 hx, FX_31 hx, FX_32 hx, FX_33 hx, FX_34 hx, FX_35 hx, FX_36 hx, FX_37 hx, FX_39 hx, FX_40 hx, i31, gq, if_true, s1, ihf]
        simp
      · have e' : ¬ a3 = q := fun z => e z.symm
        simp only [b2_t, s137_37, s137_39, s137_42, s137_43, s137_46, s137_48, s137_49, s137_50, s137_53, s137_54, s137_58i, s137_58r, s137_58n, s137_60i, s137_60r, s137_60n, s137_63, eq_self, ixk_some, bd_some, nl_n, nl_i, nl_r, Option.toList_some, Option.toList_none, List.cons_append, List.nil_append, x10, if_false, FX_2 hx, FX_3 hx, FX_4 hx, FX_5 hx, FX_6 hx, FX_7 hx, FX_8 hx, FX_9 hx, FX_10 hx, FX_11 hx, FX_12 hx, FX_13 hx, FX_15 hx, FX_19 hx, FX_20 hx, FX_21 hx, FX_22 hx, FX_23 hx, FX_24 hx, FX_25 hx, FX_26 hx, FX_27 hx, FX_28 hx, FX_29 hx, FX_31 hx, FX_32 hx, FX_33 hx, FX_34 hx, FX_35 hx, FX_36 hx, FX_37 hx, FX_39 hx, FX_40 hx, i31, gq, e, s1, iht]
        simp [e']
