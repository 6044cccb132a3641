/-! the class: linkPastFrom, becomeLinked, sendFirstSeek, linkComes, seekComes -/
theorem sndo_len (s : ST) (so : Nat) (to lv : Option Nat) (sd : Nat) (lf rg : Option Nat) : (c_ms (sndo s so to lv sd lf rg)).length ≤ (c_ms s).length + 1 := by
  cases to with
  | none => exact Nat.le_succ _
  | some p => 
    show (c_ms s ++ [_]).length ≤ _
    simp
theorem sndo_n (s : ST) (so : Nat) (to lv : Option Nat) (sd : Nat) (lf rg : Option Nat) : c_n (sndo s so to lv sd lf rg) = c_n s := by
  cases to <;> rfl
theorem sndo_hs (s : ST) (so : Nat) (to lv : Option Nat) (sd : Nat) (lf rg : Option Nat) : c_hs (sndo s so to lv sd lf rg) = c_hs s := by
  cases to <;> rfl
theorem sndo_lnk (s : ST) (so : Nat) (to lv : Option Nat) (sd : Nat) (lf rg : Option Nat) (p l d : Nat) : lnk (sndo s so to lv sd lf rg) p l d = lnk s p l d := by
  cases to <;> rfl
theorem tg_ok (s : ST) (i l d : Nat) : lnk s i l d = none ∨ tgN s i l = 6 := by
  unfold lnk tgN
  cases c_hs s i l
  · exact Or.inl rfl
  · exact Or.inr rfl
theorem unl_loop {u : Nat} {a2 : AV} (ha : ∃ x, a2 = vi x) : ∀ d l (s : ST) (m : MM) (a4 a5 : Option AV), l + d = 9 → RC s m → u < c_n s → (c_ms s).length + 2 * d ≤ 192 →
    ∃ m', go 48 2 [some (vr 7 (some 0)), some (vr 6 (some u)), some a2, some (vi (nI l)), a4, a5] [] m = some (none, m') ∧ RC (unlF s u d l) m' ∧ fK m m'
  | 0, l, s, m, a4, a5, hd, h, hu, hl => by
    refine ⟨m, ?_, h, fK_rf m⟩
    obtain ⟨x, rfl⟩ := ha
    rw [s48_2]
    simp only [s48_0, s48_1i, s48_1r, s48_1n, s48_3, s48_5, s48_8, s48_9, s48_10, s48_11, s48_14i, s48_14r, s48_14n, s48_16, s48_17, s48_18, s48_19, s48_22i, s48_22r, s48_22n, s48_24, s48_25, s48_27, s48_28, s48_29, s48_31, s48_34, s48_35, s48_37, s48_38, s48_39, s48_41, s48_44i, s48_44r, s48_44n, s48_47, s48_50, eq_self, ixk_some, bd_some, nl_n, nl_i, nl_r, Option.toList_some, Option.toList_none, List.cons_append, List.nil_append]
    rw [nI_k9, if_pos (nI_le (by omega) (by omega))]
  | d + 1, l, s, m, a4, a5, hd, h, hu, hl => by
    have hl9 : l < 9 := by omega
    have n0 := go_next (l := l) (d := 0) h.1 hu hl9 (by decide)
    have n1 := go_next (l := l) (d := 1) h.1 hu hl9 (by decide)
    obtain ⟨m1, b1, b2, b3⟩ := go_sendLink1 (l := l) h (by omega) (tg_ok s u l 0) (tg_ok s u l 1)
    have q1 := sndo_len s 7 (lnk s u l 0) (some l) 1 none (lnk s u l 1)
    obtain ⟨m2, e1, e2, e3⟩ := go_sendLink0 (l := l) (t := tgN s u l) (t' := tgN s u l) (to := lnk s u l 1) (o := lnk s u l 0) b2 (by omega) (tg_ok s u l 1) (tg_ok s u l 0)
    have q2 := sndo_len (sndo s 7 (lnk s u l 0) (some l) 1 none (lnk s u l 1)) 7 (lnk s u l 1) (some l) 0 (lnk s u l 0) none
    obtain ⟨m3, f1, f2, f3⟩ := unl_loop ha d (l + 1) _ m2 (some (vr (tgN s u l) (lnk s u l 0))) (some (vr (tgN s u l) (lnk s u l 1))) (by omega) e2 (by rw [sndo_n, sndo_n]; exact hu) (by omega)
    refine ⟨m3, ?_, ?_, fK_tr b3 (fK_tr e3 f3)⟩
    · obtain ⟨x, rfl⟩ := ha
      rw [s48_2]
      have n0 : go 27 0 [some (vr 6 (some u)), some (vi (nI l)), some (vi 0)] [] m = some (some (vr (tgN s u l) (lnk s u l 0)), m) := n0
      have n1 : go 27 0 [some (vr 6 (some u)), some (vi (nI l)), some (vi 1)] [] m = some (some (vr (tgN s u l) (lnk s u l 1)), m) := n1
      have s1 : nI l + 1 = nI (l + 1) := nI_1 l
      simp only [s48_3, s48_5, eq_self, ixk_some, bd_some, nl_n, nl_i, nl_r, Option.toList_some, Option.toList_none, List.cons_append, List.nil_append]
      rw [nI_k9, if_neg (nI_ge hl9 (by omega))]
      simp only [s48_0, s48_1i, s48_1r, s48_1n, s48_3, s48_5, s48_8, s48_9, s48_10, s48_11, s48_14i, s48_14r, s48_14n, s48_16, s48_17, s48_18, s48_19, s48_22i, s48_22r, s48_22n, s48_24, s48_25, s48_27, s48_28, s48_29, s48_31, s48_34, s48_35, s48_37, s48_38, s48_39, s48_41, s48_44i, s48_44r, s48_44n, s48_47, s48_50, eq_self, ixk_some, bd_some, nl_n, nl_i, nl_r, Option.toList_some, Option.toList_none, List.cons_append, List.nil_append, n0, n1, b1, e1, s1, f1]
    · exact f2
theorem go_linkPastFrom {s : ST} {m : MM} {u l : Nat} (h : RC s m) (hu : u < c_n s) (hl : l ≤ 9) (hc : (c_ms s).length + 18 ≤ 192) :
    ∃ m', go 48 0 [some (vr 7 (some 0)), some (vr 6 (some u)), some (vi (nI l)), none, none, none] [] m = some (none, m') ∧ RC (unlinks s u l) m' ∧ fK m m' := by
  obtain ⟨m', a1, a2⟩ := unl_loop (u := u) ⟨nI l, rfl⟩ (9 - l) l s m none none (by omega) h hu (by omega)
  refine ⟨m', ?_, a2⟩
  rw [← a1]
  simp only [s48_0, s48_1i, s48_1r, s48_1n, eq_self, ixk_some, bd_some, nl_n, nl_i, nl_r, Option.toList_some, Option.toList_none, List.cons_append, List.nil_append]
theorem go_firstSeek {s : ST} {m : MM} {u l : Nat} (h : RC s m) (hu : u < c_n s) (hl : l < 9) (hc : (c_ms s).length < 192) :
    ∃ m', go 78 0 [some (vr 7 (some 0)), some (vr 6 (some u)), some (vi (nI l)), none] [] m = some (none, m') ∧ RC (seeks s u l) m' ∧ fK m m' := by
  have k1 := h.2.2.2.2.1.1
  unfold seeks
  by_cases h8 : l < 8
  · rw [if_pos h8]
    have n0 : go 27 0 [some (vr 6 (some u)), some (vi (nI l)), some (vi 0)] [] m = some (some (vr (tgN s u l) (lnk s u l 0)), m) := go_next (l := l) (d := 0) h.1 hu hl (by decide)
    have n1 : go 27 0 [some (vr 6 (some u)), some (vi (nI l)), some (vi 1)] [] m = some (some (vr (tgN s u l) (lnk s u l 1)), m) := go_next (l := l) (d := 1) h.1 hu hl (by decide)
    have t1 := tg_ok s u l 1
    have t0 := tg_ok s u l 0
    cases hb : lnk s u l 1 with
    | some b => 
      rw [hb] at n1 t1
      have t1 : tgN s u l = 6 := by
        rcases t1 with z | z
        · cases z
        · exact z
      rw [t1] at n1
      obtain ⟨m', a1, a2⟩ := go_addo (so := 8) (sd := 1) (ta := 0) (t := 6) (tl := 0) (tr := 0) (to := some b) (lv := some l) (lf := none) (rg := none) h hc (Or.inr rfl) (Or.inl rfl) (Or.inl rfl)
      refine ⟨m', ?_, a2⟩
      have a1 : go 12 0 [some (vr 3 (some 0)), some (vr 0 none), some (vi 8), some (vr 6 (some b)), some (vi (nI l)), some (vi 1), some (vr 0 none), some (vr 0 none), none] [] m = some (none, m') := a1
      simp only [s78_0, s78_1, s78_3, eq_self, ixk_some, bd_some, nl_n, nl_i, nl_r, Option.toList_some, Option.toList_none, List.cons_append, List.nil_append]
      rw [nI_k8, if_pos (nI_lt h8 (by decide))]
      simp only [s78_0, s78_1, s78_3, s78_6, s78_7, s78_8, s78_9, s78_10, s78_13i, s78_13r, s78_13n, s78_14, s78_15n, s78_15s, s78_18, s78_19, s78_22, s78_23, s78_25, s78_26, s78_27, s78_28, s78_29, s78_30, s78_33, s78_36, s78_37, s78_40, s78_41, s78_43, s78_44, s78_45, s78_46, s78_49, s78_50, s78_51, s78_52, s78_53, s78_56, eq_self, ixk_some, bd_some, nl_n, nl_i, nl_r, Option.toList_some, Option.toList_none, List.cons_append, List.nil_append, n1, k1, a1]
    | none => 
      rw [hb] at n1
      obtain ⟨m', a1, a2⟩ := go_addo (so := 8) (sd := 0) (ta := 0) (tl := 0) (tr := 0) (lv := some l) (lf := none) (rg := none) h hc t0 (Or.inl rfl) (Or.inl rfl)
      refine ⟨m', ?_, a2⟩
      have a1 : go 12 0 [some (vr 3 (some 0)), some (vr 0 none), some (vi 8), some (vr (tgN s u l) (lnk s u l 0)), some (vi (nI l)), some (vi 0), some (vr 0 none), some (vr 0 none), none] [] m = some (none, m') := a1
      simp only [s78_0, s78_1, s78_3, eq_self, ixk_some, bd_some, nl_n, nl_i, nl_r, Option.toList_some, Option.toList_none, List.cons_append, List.nil_append]
      rw [nI_k8, if_pos (nI_lt h8 (by decide))]
      simp only [s78_0, s78_1, s78_3, s78_6, s78_7, s78_8, s78_9, s78_10, s78_13i, s78_13r, s78_13n, s78_14, s78_15n, s78_15s, s78_18, s78_19, s78_22, s78_23, s78_25, s78_26, s78_27, s78_28, s78_29, s78_30, s78_33, s78_36, s78_37, s78_40, s78_41, s78_43, s78_44, s78_45, s78_46, s78_49, s78_50, s78_51, s78_52, s78_53, s78_56, eq_self, ixk_some, bd_some, nl_n, nl_i, nl_r, Option.toList_some, Option.toList_none, List.cons_append, List.nil_append, n1, n0, k1, a1]
  · rw [if_neg h8]
    refine ⟨m, ?_, h, fK_rf m⟩
    simp only [s78_0, s78_1, s78_3, eq_self, ixk_some, bd_some, nl_n, nl_i, nl_r, Option.toList_some, Option.toList_none, List.cons_append, List.nil_append]
    rw [nI_k8, if_neg (nI_nlt (by omega) (by omega))]
    simp only [s78_6, eq_self, ixk_some, bd_some, nl_n, nl_i, nl_r, Option.toList_some, Option.toList_none, List.cons_append, List.nil_append]
theorem go_becomeLinked {s : ST} {m : MM} {u l : Nat} (h : RC s m) (hu : u < c_n s) (hl : l < 9) (hc : (c_ms s).length + 3 ≤ 192) :
    ∃ m', go 77 0 [some (vr 7 (some 0)), some (vr 6 (some u)), some (vi (nI l))] [] m = some (none, m') ∧ RC (linked s u l) m' ∧ fK m m' := by
  have n0 : go 27 0 [some (vr 6 (some u)), some (vi (nI l)), some (vi 0)] [] m = some (some (vr (tgN s u l) (lnk s u l 0)), m) := go_next (l := l) (d := 0) h.1 hu hl (by decide)
  obtain ⟨m1, b1, b2, b3⟩ := go_sendLink1 (l := l) (t' := 6) (o := some u) h (by omega) (tg_ok s u l 0) (Or.inr rfl)
  have q1 := sndo_len s 7 (lnk s u l 0) (some l) 1 none (some u)
  have n1 := go_next (l := l) (d := 1) b2.1 (by rw [sndo_n]; exact hu) hl (by decide)
  rw [sndo_lnk] at n1
  have n1 : go 27 0 [some (vr 6 (some u)), some (vi (nI l)), some (vi 1)] [] m1 = some (some (vr (tgN (sndo s 7 (lnk s u l 0) (some l) 1 none (some u)) u l) (lnk s u l 1)), m1) := n1
  have t1 := tg_ok (sndo s 7 (lnk s u l 0) (some l) 1 none (some u)) u l 1
  rw [sndo_lnk] at t1
  obtain ⟨m2, e1, e2, e3⟩ := go_sendLink0 (l := l) (t' := 6) (o := some u) b2 (by omega) t1 (Or.inr rfl)
  have q2 := sndo_len (sndo s 7 (lnk s u l 0) (some l) 1 none (some u)) 7 (lnk s u l 1) (some l) 0 (some u) none
  obtain ⟨m3, f1, f2, f3⟩ := go_firstSeek (l := l) (u := u) e2 (by rw [sndo_n, sndo_n]; exact hu) hl (by omega)
  refine ⟨m3, ?_, f2, fK_tr b3 (fK_tr e3 f3)⟩
  simp only [s77_0, s77_1, s77_2, s77_3, s77_4, s77_7, s77_8, s77_9, s77_10, s77_13, s77_14, s77_15, s77_16, s77_17, s77_20, s77_21, s77_22, s77_23, s77_26, s77_27, s77_28, s77_29, s77_32, eq_self, ixk_some, bd_some, nl_n, nl_i, nl_r, Option.toList_some, Option.toList_none, List.cons_append, List.nil_append, n0, b1, n1, e1, f1]
theorem go_seek0 {s : ST} {m : MM} {z l : Nat} (h : RC s m) (hu : c_cp s < c_n s) (hz : z < c_n s) (hl : l < 8) (hc : (c_ms s).length < 192) :
    ∃ m', go 79 0 [some (vr 7 (some 0)), some (vr 6 (some (c_cp s))), some (vr 6 (some z)), some (vi (nI l)), some (vi 0), none, none] [] m = some (none, m') ∧ RC (comesSeek s z l 0) m' ∧ fK m m' := by
  have k1 := h.2.2.2.2.1.1
  have s1 : nI l + 1 = nI (l + 1) := nI_1 l
  have e0 := go_startsAs (i := z) (j := c_cp s) (l := l + 1) h.1 hz hu
  have n1 : go 27 0 [some (vr 6 (some z)), some (vi (nI l)), some (vi 0)] [] m = some (some (vr (tgN s z l) (lnk s z l 0)), m) := go_next (l := l) (d := 0) h.1 hz (by omega) (by decide)
  have n2 : go 27 0 [some (vr 6 (some z)), some (vi (nI (l + 1))), some (vi 1)] [] m = some (some (vr (tgN s z (l + 1)) (lnk s z (l + 1) 1)), m) := go_next (l := l + 1) (d := 1) h.1 hz (by omega) (by decide)
  have t1 := tg_ok s z l 0
  have x01 : ¬ (0 : Nat) = 1 := by decide
  unfold comesSeek
  cases hk : like s z (c_cp s) (l + 1)
  · rw [hk, b2_f] at e0
    simp only [hk, Bool.false_eq_true, if_false, x01]
    cases hn : lnk s z l 0 with
    | some p => 
      rw [hn] at n1 t1
      have t1 : tgN s z l = 6 := by
        rcases t1 with z | z
        · cases z
        · exact z
      rw [t1] at n1
      obtain ⟨m', a1, a2⟩ := go_addo (so := 8) (sd := 0) (ta := 0) (t := 6) (tl := 0) (tr := 0) (to := some p) (lv := some l) (lf := none) (rg := none) h hc (Or.inr rfl) (Or.inl rfl) (Or.inl rfl)
      refine ⟨m', ?_, a2⟩
      have a1 : go 12 0 [some (vr 3 (some 0)), some (vr 0 none), some (vi 8), some (vr 6 (some p)), some (vi (nI l)), some (vi 0), some (vr 0 none), some (vr 0 none), none] [] m = some (none, m') := a1
      simp [s79_0, s79_1, s79_2, s79_3, s79_4, s79_5, s79_8, s79_11, s79_12, s79_13, s79_14, s79_15, s79_16, s79_18, s79_21, s79_22, s79_25, s79_26, s79_27, s79_28, s79_29, s79_30, s79_33, s79_35, s79_36, s79_39, s79_40, s79_43, s79_44, s79_45, s79_46, s79_47, s79_48, s79_51, s79_54, s79_55, s79_56, s79_57, s79_59, s79_62i, s79_62r, s79_62n, s79_64, s79_66, s79_67, s79_70, s79_71, s79_72, s79_73, s79_76, s79_79, s79_80i, s79_80r, s79_80n, s79_82, s79_84n, s79_84s, s79_87, s79_88, s79_91, s79_92, s79_94, s79_96, s79_97, s79_99, s79_100, s79_101, s79_104, s79_107, s79_109n, s79_109s, s79_112, s79_113, s79_116, s79_117, s79_119, s79_121, s79_122, s79_123, s79_124, s79_125, s79_128, s79_131, s79_132, s79_133, s79_134, s79_135, s79_136, s79_137, s79_138, s79_141, eq_self, ixk_some, bd_some, nl_n, nl_i, nl_r, Option.toList_some, Option.toList_none, List.cons_append, List.nil_append, s1, e0, n1, k1, a1]
    | none => 
      rw [hn] at n1
      obtain ⟨m', a1, a2⟩ := go_sendTell (l := l + 1) (t := 0) (t' := 0) (u := c_cp s) (o := none) (o' := none) h hc (Or.inl rfl) (Or.inl rfl)
      refine ⟨m', ?_, a2⟩
      simp [s79_0, s79_1, s79_2, s79_3, s79_4, s79_5, s79_8, s79_11, s79_12, s79_13, s79_14, s79_15, s79_16, s79_18, s79_21, s79_22, s79_25, s79_26, s79_27, s79_28, s79_29, s79_30, s79_33, s79_35, s79_36, s79_39, s79_40, s79_43, s79_44, s79_45, s79_46, s79_47, s79_48, s79_51, s79_54, s79_55, s79_56, s79_57, s79_59, s79_62i, s79_62r, s79_62n, s79_64, s79_66, s79_67, s79_70, s79_71, s79_72, s79_73, s79_76, s79_79, s79_80i, s79_80r, s79_80n, s79_82, s79_84n, s79_84s, s79_87, s79_88, s79_91, s79_92, s79_94, s79_96, s79_97, s79_99, s79_100, s79_101, s79_104, s79_107, s79_109n, s79_109s, s79_112, s79_113, s79_116, s79_117, s79_119, s79_121, s79_122, s79_123, s79_124, s79_125, s79_128, s79_131, s79_132, s79_133, s79_134, s79_135, s79_136, s79_137, s79_138, s79_141, eq_self, ixk_some, bd_some, nl_n, nl_i, nl_r, Option.toList_some, Option.toList_none, List.cons_append, List.nil_append, s1, e0, n1, k1, a1]
  · rw [hk, b2_t] at e0
    simp only [hk, if_true, x01, if_false]
    obtain ⟨m', a1, a2⟩ := go_sendTell (l := l + 1) (t := 6) (u := c_cp s) (o := some z) h hc (Or.inr rfl) (tg_ok s z (l + 1) 1)
    refine ⟨m', ?_, a2⟩
    simp [s79_0, s79_1, s79_2, s79_3, s79_4, s79_5, s79_8, s79_11, s79_12, s79_13, s79_14, s79_15, s79_16, s79_18, s79_21, s79_22, s79_25, s79_26, s79_27, s79_28, s79_29, s79_30, s79_33, s79_35, s79_36, s79_39, s79_40, s79_43, s79_44, s79_45, s79_46, s79_47, s79_48, s79_51, s79_54, s79_55, s79_56, s79_57, s79_59, s79_62i, s79_62r, s79_62n, s79_64, s79_66, s79_67, s79_70, s79_71, s79_72, s79_73, s79_76, s79_79, s79_80i, s79_80r, s79_80n, s79_82, s79_84n, s79_84s, s79_87, s79_88, s79_91, s79_92, s79_94, s79_96, s79_97, s79_99, s79_100, s79_101, s79_104, s79_107, s79_109n, s79_109s, s79_112, s79_113, s79_116, s79_117, s79_119, s79_121, s79_122, s79_123, s79_124, s79_125, s79_128, s79_131, s79_132, s79_133, s79_134, s79_135, s79_136, s79_137, s79_138, s79_141, eq_self, ixk_some, bd_some, nl_n, nl_i, nl_r, Option.toList_some, Option.toList_none, List.cons_append, List.nil_append, s1, e0, n2, k1, a1]
theorem go_seek1 {s : ST} {m : MM} {z l : Nat} (h : RC s m) (hu : c_cp s < c_n s) (hz : z < c_n s) (hl : l < 8) (hc : (c_ms s).length < 192) :
    ∃ m', go 79 0 [some (vr 7 (some 0)), some (vr 6 (some (c_cp s))), some (vr 6 (some z)), some (vi (nI l)), some (vi 1), none, none] [] m = some (none, m') ∧ RC (comesSeek s z l 1) m' ∧ fK m m' := by
  have k1 := h.2.2.2.2.1.1
  have s1 : nI l + 1 = nI (l + 1) := nI_1 l
  have e0 := go_startsAs (i := z) (j := c_cp s) (l := l + 1) h.1 hz hu
  have n1 : go 27 0 [some (vr 6 (some z)), some (vi (nI l)), some (vi 1)] [] m = some (some (vr (tgN s z l) (lnk s z l 1)), m) := go_next (l := l) (d := 1) h.1 hz (by omega) (by decide)
  have n2 : go 27 0 [some (vr 6 (some z)), some (vi (nI (l + 1))), some (vi 0)] [] m = some (some (vr (tgN s z (l + 1)) (lnk s z (l + 1) 0)), m) := go_next (l := l + 1) (d := 0) h.1 hz (by omega) (by decide)
  have nu : go 27 0 [some (vr 6 (some (c_cp s))), some (vi (nI l)), some (vi 0)] [] m = some (some (vr (tgN s (c_cp s) l) (lnk s (c_cp s) l 0)), m) := go_next (l := l) (d := 0) h.1 hu (by omega) (by decide)
  have t1 := tg_ok s z l 1
  have tu := tg_ok s (c_cp s) l 0
  unfold comesSeek
  cases hk : like s z (c_cp s) (l + 1)
  · rw [hk, b2_f] at e0
    simp only [hk, Bool.false_eq_true, if_false, if_true]
    cases hn : lnk s z l 1 with
    | some p => 
      rw [hn] at n1 t1
      have t1 : tgN s z l = 6 := by
        rcases t1 with z | z
        · cases z
        · exact z
      rw [t1] at n1
      obtain ⟨m', a1, a2⟩ := go_addo (so := 8) (sd := 1) (ta := 0) (t := 6) (tl := 0) (tr := 0) (to := some p) (lv := some l) (lf := none) (rg := none) h hc (Or.inr rfl) (Or.inl rfl) (Or.inl rfl)
      refine ⟨m', ?_, a2⟩
      have a1 : go 12 0 [some (vr 3 (some 0)), some (vr 0 none), some (vi 8), some (vr 6 (some p)), some (vi (nI l)), some (vi 1), some (vr 0 none), some (vr 0 none), none] [] m = some (none, m') := a1
      simp [s79_0, s79_1, s79_2, s79_3, s79_4, s79_5, s79_8, s79_11, s79_12, s79_13, s79_14, s79_15, s79_16, s79_18, s79_21, s79_22, s79_25, s79_26, s79_27, s79_28, s79_29, s79_30, s79_33, s79_35, s79_36, s79_39, s79_40, s79_43, s79_44, s79_45, s79_46, s79_47, s79_48, s79_51, s79_54, s79_55, s79_56, s79_57, s79_59, s79_62i, s79_62r, s79_62n, s79_64, s79_66, s79_67, s79_70, s79_71, s79_72, s79_73, s79_76, s79_79, s79_80i, s79_80r, s79_80n, s79_82, s79_84n, s79_84s, s79_87, s79_88, s79_91, s79_92, s79_94, s79_96, s79_97, s79_99, s79_100, s79_101, s79_104, s79_107, s79_109n, s79_109s, s79_112, s79_113, s79_116, s79_117, s79_119, s79_121, s79_122, s79_123, s79_124, s79_125, s79_128, s79_131, s79_132, s79_133, s79_134, s79_135, s79_136, s79_137, s79_138, s79_141, eq_self, ixk_some, bd_some, nl_n, nl_i, nl_r, Option.toList_some, Option.toList_none, List.cons_append, List.nil_append, s1, e0, n1, nu, k1, a1]
    | none => 
      rw [hn] at n1
      cases hv : lnk s (c_cp s) l 0 with
      | some p => 
        rw [hv] at nu tu
        have tu : tgN s (c_cp s) l = 6 := by
          rcases tu with z | z
          · cases z
          · exact z
        rw [tu] at nu
        obtain ⟨m', a1, a2⟩ := go_addo (so := 8) (sd := 0) (ta := 0) (t := 6) (tl := 0) (tr := 0) (to := some p) (lv := some l) (lf := none) (rg := none) h hc (Or.inr rfl) (Or.inl rfl) (Or.inl rfl)
        refine ⟨m', ?_, a2⟩
        have a1 : go 12 0 [some (vr 3 (some 0)), some (vr 0 none), some (vi 8), some (vr 6 (some p)), some (vi (nI l)), some (vi 0), some (vr 0 none), some (vr 0 none), none] [] m = some (none, m') := a1
        simp [s79_0, s79_1, s79_2, s79_3, s79_4, s79_5, s79_8, s79_11, s79_12, s79_13, s79_14, s79_15, s79_16, s79_18, s79_21, s79_22, s79_25, s79_26, s79_27, s79_28, s79_29, s79_30, s79_33, s79_35, s79_36, s79_39, s79_40, s79_43, s79_44, s79_45, s79_46, s79_47, s79_48, s79_51, s79_54, s79_55, s79_56, s79_57, s79_59, s79_62i, s79_62r, s79_62n, s79_64, s79_66, s79_67, s79_70, s79_71, s79_72, s79_73, s79_76, s79_79, s79_80i, s79_80r, s79_80n, s79_82, s79_84n, s79_84s, s79_87, s79_88, s79_91, s79_92, s79_94, s79_96, s79_97, s79_99, s79_100, s79_101, s79_104, s79_107, s79_109n, s79_109s, s79_112, s79_113, s79_116, s79_117, s79_119, s79_121, s79_122, s79_123, s79_124, s79_125, s79_128, s79_131, s79_132, s79_133, s79_134, s79_135, s79_136, s79_137, s79_138, s79_141, eq_self, ixk_some, bd_some, nl_n, nl_i, nl_r, Option.toList_some, Option.toList_none, List.cons_append, List.nil_append, s1, e0, n1, nu, k1, a1]
      | none => 
        rw [hv] at nu
        obtain ⟨m', a1, a2⟩ := go_sendTell (l := l + 1) (t := 0) (t' := 0) (u := c_cp s) (o := none) (o' := none) h hc (Or.inl rfl) (Or.inl rfl)
        refine ⟨m', ?_, a2⟩
        simp [s79_0, s79_1, s79_2, s79_3, s79_4, s79_5, s79_8, s79_11, s79_12, s79_13, s79_14, s79_15, s79_16, s79_18, s79_21, s79_22, s79_25, s79_26, s79_27, s79_28, s79_29, s79_30, s79_33, s79_35, s79_36, s79_39, s79_40, s79_43, s79_44, s79_45, s79_46, s79_47, s79_48, s79_51, s79_54, s79_55, s79_56, s79_57, s79_59, s79_62i, s79_62r, s79_62n, s79_64, s79_66, s79_67, s79_70, s79_71, s79_72, s79_73, s79_76, s79_79, s79_80i, s79_80r, s79_80n, s79_82, s79_84n, s79_84s, s79_87, s79_88, s79_91, s79_92, s79_94, s79_96, s79_97, s79_99, s79_100, s79_101, s79_104, s79_107, s79_109n, s79_109s, s79_112, s79_113, s79_116, s79_117, s79_119, s79_121, s79_122, s79_123, s79_124, s79_125, s79_128, s79_131, s79_132, s79_133, s79_134, s79_135, s79_136, s79_137, s79_138, s79_141, eq_self, ixk_some, bd_some, nl_n, nl_i, nl_r, Option.toList_some, Option.toList_none, List.cons_append, List.nil_append, s1, e0, n1, nu, k1, a1]
  · rw [hk, b2_t] at e0
    simp only [hk, if_true]
    obtain ⟨m', a1, a2⟩ := go_sendTell (l := l + 1) (t' := 6) (u := c_cp s) (o' := some z) h hc (tg_ok s z (l + 1) 0) (Or.inr rfl)
    refine ⟨m', ?_, a2⟩
    simp [s79_0, s79_1, s79_2, s79_3, s79_4, s79_5, s79_8, s79_11, s79_12, s79_13, s79_14, s79_15, s79_16, s79_18, s79_21, s79_22, s79_25, s79_26, s79_27, s79_28, s79_29, s79_30, s79_33, s79_35, s79_36, s79_39, s79_40, s79_43, s79_44, s79_45, s79_46, s79_47, s79_48, s79_51, s79_54, s79_55, s79_56, s79_57, s79_59, s79_62i, s79_62r, s79_62n, s79_64, s79_66, s79_67, s79_70, s79_71, s79_72, s79_73, s79_76, s79_79, s79_80i, s79_80r, s79_80n, s79_82, s79_84n, s79_84s, s79_87, s79_88, s79_91, s79_92, s79_94, s79_96, s79_97, s79_99, s79_100, s79_101, s79_104, s79_107, s79_109n, s79_109s, s79_112, s79_113, s79_116, s79_117, s79_119, s79_121, s79_122, s79_123, s79_124, s79_125, s79_128, s79_131, s79_132, s79_133, s79_134, s79_135, s79_136, s79_137, s79_138, s79_141, eq_self, ixk_some, bd_some, nl_n, nl_i, nl_r, Option.toList_some, Option.toList_none, List.cons_append, List.nil_append, s1, e0, n2, k1, a1]
