/-! the reference: find .. get, join, again -/
theorem rr_find {s : ST} {m : MM} {p x : Int32} (h : RR s m) (hl : (c_ms s).length < 192) : ∃ m', go 138 0 [some (vr 8 (some 0)), some (vi p), some (vi x)] [] m = some (some (vi (o_ask2 s 0 p x x 0).1), m') ∧ RR (o_ask2 s 0 p x x 0).2 m' ∧ fs QW m m' := by
  have a0 := rr_isPeer (p := p) h.1
  have hxx : x ≤ x := Int32.le_iff_toInt_le.mpr (Int.le_refl _)
  unfold o_ask2
  rcases isP_cases s p with h0 | ⟨h0, h1, h2⟩
  · rw [h0, b2_f] at a0
    rw [if_neg (fun z => by rw [h0] at z; cases z.1)]
    refine ⟨m, ?_, h, fs_rf _ _⟩
    simp [s138_0, s138_1, s138_2, s138_5, s138_8, s138_9, s138_10, s138_11, s138_12, s138_13, s138_14, s138_17, s138_20, s138_21, eq_self, ixk_some, bd_some, nl_n, nl_i, nl_r, Option.toList_some, Option.toList_none, List.cons_append, List.nil_append, a0]
  · rw [h0, b2_t] at a0
    rw [if_pos ⟨h0, hxx⟩]
    obtain ⟨m1, d1, d2, d3⟩ := rr_askOf (so := 0) (a := x) (b := x) (v := 0) h h1 (by decide) (fun z => by cases z) hl
    rw [← h2, show nI 0 = 0 from rfl] at d1
    refine ⟨m1, ?_, d2, d3⟩
    simp [s138_0, s138_1, s138_2, s138_5, s138_8, s138_9, s138_10, s138_11, s138_12, s138_13, s138_14, s138_17, s138_20, s138_21, eq_self, ixk_some, bd_some, nl_n, nl_i, nl_r, Option.toList_some, Option.toList_none, List.cons_append, List.nil_append, a0, d1]
theorem rr_put {s : ST} {m : MM} {p x : Int32} {v : Int64} (h : RR s m) (hl : (c_ms s).length < 192) : ∃ m', go 141 0 [some (vr 8 (some 0)), some (vi p), some (vi x), some (vl v), none] [] m = some (some (vi (o_ask2 s 3 p x x v).1), m') ∧ RR (o_ask2 s 3 p x x v).2 m' ∧ fs QW m m' := by
  have a0 := rr_isPeer (p := p) h.1
  have hxx : x ≤ x := Int32.le_iff_toInt_le.mpr (Int.le_refl _)
  unfold o_ask2
  rcases isP_cases s p with h0 | ⟨h0, h1, h2⟩
  · rw [h0, b2_f] at a0
    rw [if_neg (fun z => by rw [h0] at z; cases z.1)]
    refine ⟨m, ?_, h, fs_rf _ _⟩
    simp [s141_0, s141_1, s141_2, s141_5, s141_8, s141_9, s141_10, s141_11, s141_12, s141_13, s141_14, s141_17, s141_20, s141_21, eq_self, ixk_some, bd_some, nl_n, nl_i, nl_r, Option.toList_some, Option.toList_none, List.cons_append, List.nil_append, a0]
  · rw [h0, b2_t] at a0
    rw [if_pos ⟨h0, hxx⟩]
    obtain ⟨m1, d1, d2, d3⟩ := rr_askOf (so := 3) (a := x) (b := x) (v := v) h h1 (by decide) (fun z => by cases z) hl
    rw [← h2, show nI 3 = 3 from rfl] at d1
    refine ⟨m1, ?_, d2, d3⟩
    simp [s141_0, s141_1, s141_2, s141_5, s141_8, s141_9, s141_10, s141_11, s141_12, s141_13, s141_14, s141_17, s141_20, s141_21, eq_self, ixk_some, bd_some, nl_n, nl_i, nl_r, Option.toList_some, Option.toList_none, List.cons_append, List.nil_append, a0, d1]
theorem rr_get {s : ST} {m : MM} {p x : Int32} (h : RR s m) (hl : (c_ms s).length < 192) : ∃ m', go 142 0 [some (vr 8 (some 0)), some (vi p), some (vi x)] [] m = some (some (vi (o_ask2 s 4 p x x 0).1), m') ∧ RR (o_ask2 s 4 p x x 0).2 m' ∧ fs QW m m' := by
  have a0 := rr_isPeer (p := p) h.1
  have hxx : x ≤ x := Int32.le_iff_toInt_le.mpr (Int.le_refl _)
  unfold o_ask2
  rcases isP_cases s p with h0 | ⟨h0, h1, h2⟩
  · rw [h0, b2_f] at a0
    rw [if_neg (fun z => by rw [h0] at z; cases z.1)]
    refine ⟨m, ?_, h, fs_rf _ _⟩
    simp [s142_0, s142_1, s142_2, s142_5, s142_8, s142_9, s142_10, s142_11, s142_12, s142_13, s142_14, s142_17, s142_20, s142_21, eq_self, ixk_some, bd_some, nl_n, nl_i, nl_r, Option.toList_some, Option.toList_none, List.cons_append, List.nil_append, a0]
  · rw [h0, b2_t] at a0
    rw [if_pos ⟨h0, hxx⟩]
    obtain ⟨m1, d1, d2, d3⟩ := rr_askOf (so := 4) (a := x) (b := x) (v := 0) h h1 (by decide) (fun _ => rfl) hl
    rw [← h2, show nI 4 = 4 from rfl] at d1
    refine ⟨m1, ?_, d2, d3⟩
    simp [s142_0, s142_1, s142_2, s142_5, s142_8, s142_9, s142_10, s142_11, s142_12, s142_13, s142_14, s142_17, s142_20, s142_21, eq_self, ixk_some, bd_some, nl_n, nl_i, nl_r, Option.toList_some, Option.toList_none, List.cons_append, List.nil_append, a0, d1]
theorem rr_span {s : ST} {m : MM} {p a b : Int32} (h : RR s m) (hl : (c_ms s).length < 192) : ∃ m', go 139 0 [some (vr 8 (some 0)), some (vi p), some (vi a), some (vi b)] [] m = some (some (vi (o_ask2 s 1 p a b 0).1), m') ∧ RR (o_ask2 s 1 p a b 0).2 m' ∧ fs QW m m' := by
  have a0 := rr_isPeer (p := p) h.1
  unfold o_ask2
  rcases isP_cases s p with h0 | ⟨h0, h1, h2⟩
  · rw [h0, b2_f] at a0
    rw [if_neg (fun z => by rw [h0] at z; cases z.1)]
    refine ⟨m, ?_, h, fs_rf _ _⟩
    simp [s139_0, s139_1, s139_2, s139_5, s139_8, s139_9, s139_10, s139_13, s139_14, s139_15, s139_16, s139_17, s139_18, s139_19, s139_22, s139_25, s139_26, eq_self, ixk_some, bd_some, nl_n, nl_i, nl_r, Option.toList_some, Option.toList_none, List.cons_append, List.nil_append, a0]
  · rw [h0, b2_t] at a0
    by_cases hab : a ≤ b
    · rw [if_pos ⟨h0, hab⟩]
      have nlt : ¬ b < a := i_nlt.mpr hab
      obtain ⟨m1, d1, d2, d3⟩ := rr_askOf (so := 1) (a := a) (b := b) (v := 0) h h1 (by decide) (fun z => by cases z) hl
      rw [← h2, show nI 1 = 1 from rfl] at d1
      refine ⟨m1, ?_, d2, d3⟩
      simp [s139_0, s139_1, s139_2, s139_5, s139_8, s139_9, s139_10, s139_13, s139_14, s139_15, s139_16, s139_17, s139_18, s139_19, s139_22, s139_25, s139_26, eq_self, ixk_some, bd_some, nl_n, nl_i, nl_r, Option.toList_some, Option.toList_none, List.cons_append, List.nil_append, a0, nlt, d1]
    · rw [if_neg (fun z => hab z.2)]
      have nlt : b < a := i_nle.mp hab
      refine ⟨m, ?_, h, fs_rf _ _⟩
      simp [s139_0, s139_1, s139_2, s139_5, s139_8, s139_9, s139_10, s139_13, s139_14, s139_15, s139_16, s139_17, s139_18, s139_19, s139_22, s139_25, s139_26, eq_self, ixk_some, bd_some, nl_n, nl_i, nl_r, Option.toList_some, Option.toList_none, List.cons_append, List.nil_append, a0, nlt]
theorem rr_tally {s : ST} {m : MM} {p a b : Int32} (h : RR s m) (hl : (c_ms s).length < 192) : ∃ m', go 140 0 [some (vr 8 (some 0)), some (vi p), some (vi a), some (vi b)] [] m = some (some (vi (o_ask2 s 2 p a b 0).1), m') ∧ RR (o_ask2 s 2 p a b 0).2 m' ∧ fs QW m m' := by
  have a0 := rr_isPeer (p := p) h.1
  unfold o_ask2
  rcases isP_cases s p with h0 | ⟨h0, h1, h2⟩
  · rw [h0, b2_f] at a0
    rw [if_neg (fun z => by rw [h0] at z; cases z.1)]
    refine ⟨m, ?_, h, fs_rf _ _⟩
    simp [s140_0, s140_1, s140_2, s140_5, s140_8, s140_9, s140_10, s140_13, s140_14, s140_15, s140_16, s140_17, s140_18, s140_19, s140_22, s140_25, s140_26, eq_self, ixk_some, bd_some, nl_n, nl_i, nl_r, Option.toList_some, Option.toList_none, List.cons_append, List.nil_append, a0]
  · rw [h0, b2_t] at a0
    by_cases hab : a ≤ b
    · rw [if_pos ⟨h0, hab⟩]
      have nlt : ¬ b < a := i_nlt.mpr hab
      obtain ⟨m1, d1, d2, d3⟩ := rr_askOf (so := 2) (a := a) (b := b) (v := 0) h h1 (by decide) (fun z => by cases z) hl
      rw [← h2, show nI 2 = 2 from rfl] at d1
      refine ⟨m1, ?_, d2, d3⟩
      simp [s140_0, s140_1, s140_2, s140_5, s140_8, s140_9, s140_10, s140_13, s140_14, s140_15, s140_16, s140_17, s140_18, s140_19, s140_22, s140_25, s140_26, eq_self, ixk_some, bd_some, nl_n, nl_i, nl_r, Option.toList_some, Option.toList_none, List.cons_append, List.nil_append, a0, nlt, d1]
    · rw [if_neg (fun z => hab z.2)]
      have nlt : b < a := i_nle.mp hab
      refine ⟨m, ?_, h, fs_rf _ _⟩
      simp [s140_0, s140_1, s140_2, s140_5, s140_8, s140_9, s140_10, s140_13, s140_14, s140_15, s140_16, s140_17, s140_18, s140_19, s140_22, s140_25, s140_26, eq_self, ixk_some, bd_some, nl_n, nl_i, nl_r, Option.toList_some, Option.toList_none, List.cons_append, List.nil_append, a0, nlt]
/-- a change begins: no GIVE or HAND is under way -/
theorem RR_on {s s' : ST} {m m' : MM} (h : RR s m) (hf : fs (fun r k => r = 8 ∧ (k = 41 ∨ k = 42 ∨ k = 43 ∨ k = 44)) m m') (hc : RRc s' m') (hno : ∀ g, g ∈ c_ms s → g_as g ≠ none ∧ g_so g ≤ 4) (e : SEc s s') (ep : c_pr s' = c_pr s) : RR s' m' := by
  obtain ⟨h1, h2, h3, h4, h5, h6, h7⟩ := h
  obtain ⟨e1, e2, e3, e4, e5, e6, e7, e8, e9, e10, e11, e12, e13⟩ := e
  refine ⟨?_, ?_, ?_, ?_, ?_, hc, fun ⟨g, a, b⟩ => ?_⟩
  · exact RRp_kl2 (RRp_fs h1 hf (fun r k z => by omega)) e1 e2 e3 e4 e5 (fun i l _ => by rw [e6]) (fun i l d _ _ => by rw [e7]) (fun i d _ => by rw [e8])
  · have := RRq_fs h2 hf (fun r k z => by omega)
    unfold RRq at this ⊢
    rw [e1, ep]; exact this
  · have := RRk_fs h3 hf (fun r k z => by omega)
    unfold RRk at this ⊢
    rw [e9, e10]; exact this
  · have := RRa_fs h4 hf (fun r k z => by omega)
    unfold RRa at this ⊢
    rw [e11, e12]; exact this
  · have := RRm_fs h5 hf (fun r k z => by omega)
    obtain ⟨k1, k2, k3⟩ := this
    refine ⟨by rw [e13]; exact k1, by rw [e13]; exact k2, fun i g hg => ?_⟩
    rw [e13] at hg
    have hs := (hno g (List.mem_of_getElem? hg)).2
    obtain ⟨g1, g2, g3, g4, g5, g6, g7, g8⟩ := k3 i g hg
    exact ⟨g1, g2, g3, g4, g5, fun z => by omega, fun z => by omega, fun z => by omega⟩
  · rw [e13] at a
    have := (hno g a).2
    omega
