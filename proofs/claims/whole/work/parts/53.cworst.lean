/-! the class: worst -/
def wkD (s : ST) (x : Int32) : Nat → Nat → Prop
  | 0, u => onw s u x = none
  | f + 1, u => match onw s u x with
    | some p => wkD s x f p
    | none => True
theorem aml_lt {s : ST} (h : CLs s) {u : Nat} (hu : u < c_n s) {x : Int32} {d p : Nat} : ∀ n, aml s u x d n = some p → p < c_n s
  | 0, e => by cases e
  | n + 1, e => by
    unfold aml at e
    cases hl : lnk s u n d with
    | none => 
      rw [hl] at e
      exact aml_lt h hu n e
    | some q => 
      rw [hl] at e
      simp only at e
      by_cases hc : (if d = 1 then c_nm s q ≤ x else x ≤ c_nm s q)
      · rw [if_pos hc] at e
        cases e
        exact cls_lnk h hu hl
      · rw [if_neg hc] at e
        exact aml_lt h hu n e
theorem onw_lt {s : ST} (h : CLs s) {u : Nat} (hu : u < c_n s) {x : Int32} {p : Nat} (e : onw s u x = some p) : p < c_n s := by
  unfold onw at e
  cases hw : awy s u
  · rw [hw] at e
    simp only [Bool.false_eq_true, if_false] at e
    by_cases hc : c_nm s u ≤ x
    · rw [if_pos hc] at e
      exact aml_lt h hu 9 e
    · rw [if_neg hc] at e
      cases ha : aml s u x 0 9 with
      | some q => 
        rw [ha] at e
        cases e
        exact aml_lt h hu 9 ha
      | none => 
        rw [ha] at e
        exact cls_lnk h hu e
  · rw [hw] at e
    simp only [if_true] at e
    cases ha : c_ol s u 0 with
    | some q => 
      rw [ha] at e
      cases e
      exact h.2 u 0 _ hu ha
    | none => 
      rw [ha] at e
      exact h.2 u 1 _ hu e
theorem walk_loop {s : ST} {m : MM} {x : Int32} (h : RCp s m) (hc : CLs s) {v : Nat} : ∀ f u c (a4 : Option AV), u < c_n s → wkD s x f u → 1 ≤ c → c + f < 10000 →
    go 101 4 [some (vr 6 (some v)), some (vi x), some (vr 6 (some u)), some (vi (nI c)), a4] [] m = some (some (vi (nI (c - 1 + wkF s x f u))), m) := by
  have e1 : (10000 : Int32) = nI 10000 := rfl
  intro f
  induction f with
  | zero => 
    intro u c a4 hu hd hc1 hcf
    obtain ⟨t, a1, a2⟩ := go_onward (x := x) h hc hu
    rw [show onw s u x = none from hd] at a2
    rw [s101_4]
    simp only [s101_5, s101_8, eq_self, ixk_some, bd_some, nl_n, nl_i, nl_r, Option.toList_some, Option.toList_none, List.cons_append, List.nil_append]
    rw [e1, if_neg (nI_ge (by omega) (by omega))]
    simp only [s101_0, s101_1i, s101_1r, s101_1n, s101_2, s101_3i, s101_3r, s101_3n, s101_5, s101_8, s101_11, s101_12, s101_13, s101_16i, s101_16r, s101_16n, s101_18, s101_20n, s101_20s, s101_23, s101_26, s101_28i, s101_28r, s101_28n, s101_29i, s101_29r, s101_29n, s101_32, s101_35, s101_36, eq_self, ixk_some, bd_some, nl_n, nl_i, nl_r, Option.toList_some, Option.toList_none, List.cons_append, List.nil_append, a2]
    show some (some (vi (nI c)), m) = some (some (vi (nI (c - 1 + 1))), m)
    rw [show c - 1 + 1 = c by omega]
  | succ f ih => 
    intro u c a4 hu hd hc1 hcf
    obtain ⟨t, a1, a2⟩ := go_onward (x := x) h hc hu
    have s1 : nI c + 1 = nI (c + 1) := nI_1 c
    rw [s101_4]
    simp only [s101_5, s101_8, eq_self, ixk_some, bd_some, nl_n, nl_i, nl_r, Option.toList_some, Option.toList_none, List.cons_append, List.nil_append]
    rw [e1, if_neg (nI_ge (by omega) (by omega))]
    unfold wkD at hd
    unfold wkF
    cases ho : onw s u x with
    | none => 
      rw [ho] at a2
      simp only [s101_0, s101_1i, s101_1r, s101_1n, s101_2, s101_3i, s101_3r, s101_3n, s101_5, s101_8, s101_11, s101_12, s101_13, s101_16i, s101_16r, s101_16n, s101_18, s101_20n, s101_20s, s101_23, s101_26, s101_28i, s101_28r, s101_28n, s101_29i, s101_29r, s101_29n, s101_32, s101_35, s101_36, eq_self, ixk_some, bd_some, nl_n, nl_i, nl_r, Option.toList_some, Option.toList_none, List.cons_append, List.nil_append, a2]
      show some (some (vi (nI c)), m) = some (some (vi (nI (c - 1 + 1))), m)
      rw [show c - 1 + 1 = c by omega]
    | some p => 
      rw [ho] at a1 a2 hd
      have t6 : t = 6 := by
        rcases a1 with z | z
        · cases z
        · exact z
      subst t6
      have := ih p (c + 1) (some (vr 6 (some p))) (onw_lt hc hu ho) hd (by omega) (by omega)
      simp only [s101_0, s101_1i, s101_1r, s101_1n, s101_2, s101_3i, s101_3r, s101_3n, s101_5, s101_8, s101_11, s101_12, s101_13, s101_16i, s101_16r, s101_16n, s101_18, s101_20n, s101_20s, s101_23, s101_26, s101_28i, s101_28r, s101_28n, s101_29i, s101_29r, s101_29n, s101_32, s101_35, s101_36, eq_self, ixk_some, bd_some, nl_n, nl_i, nl_r, Option.toList_some, Option.toList_none, List.cons_append, List.nil_append, a2, s1, this]
      rw [show c + 1 - 1 + wkF s x f p = c - 1 + (1 + wkF s x f p) by omega]
theorem go_walk {s : ST} {m : MM} {x : Int32} {p : Nat} (h : RCp s m) (hc : CLs s) (hp : p < c_n s) (hd : wkD s x 64 p) :
    go 101 0 [some (vr 6 (some p)), some (vi x), none, none, none] [] m = some (some (vi (nI (wkF s x 64 p))), m) := by
  have := walk_loop (x := x) (v := p) h hc 64 p 1 none hp hd (by omega) (by omega)
  rw [show 1 - 1 + wkF s x 64 p = wkF s x 64 p by omega] at this
  rw [← this]
  simp only [s101_0, s101_1i, s101_1r, s101_1n, s101_2, s101_3i, s101_3r, s101_3n, eq_self, ixk_some, bd_some, nl_n, nl_i, nl_r, Option.toList_some, Option.toList_none, List.cons_append, List.nil_append]
  rfl
theorem wq_loop {s : ST} {m : MM} {p : Nat} (h : RCp s m) (hc : CLs s) (hp : p < c_n s) (hd : c_be s p = 2 → ∀ q, q < c_n s → c_be s q = 2 → wkD s (c_nm s q) 64 p) : ∀ d q (b : Int32), q + d = c_n s →
    ∀ r, go 91 91 [some (vr 7 (some 0)), some (vi (wqF s p d q b)), some (vi (nI p)), some (vi (nI (c_n s)))] [] m = r → go 91 28 [some (vr 7 (some 0)), some (vi b), some (vi (nI p)), some (vi (nI q))] [] m = r := by
  obtain ⟨h1, h2, h3, h4, h5, h6, h7⟩ := h
  have hip := ix_nI (i := p) (n := mN m 16 0) (by rw [h4]; omega) (by rw [h4]; decide)
  intro d
  induction d with
  | zero => 
    intro q b hq r hr
    rw [s91_28]
    simp only [s91_29, s91_30, s91_33, eq_self, ixk_some, bd_some, nl_n, nl_i, nl_r, Option.toList_some, Option.toList_none, List.cons_append, List.nil_append, h2]
    rw [if_pos (nI_le (by omega) (by omega))]
    rw [show nI q = nI (c_n s) by rw [show q = c_n s by omega]]
    exact hr
  | succ d ih => 
    intro q b hq r hr
    have hiq := ix_nI (i := q) (n := mN m 16 0) (by rw [h4]; omega) (by rw [h4]; decide)
    have hq1 : q < c_n s := by omega
    have s1 : nI q + 1 = nI (q + 1) := nI_1 q
    have gp := (h7 p hp).2.2.2.1
    have gq := (h7 q hq1).2.2.2.1
    have gn := (h7 q hq1).2.1
    have bp := h6 p hp
    have bq := h6 q hq1
    rw [s91_28]
    simp only [s91_29, s91_30, s91_33, eq_self, ixk_some, bd_some, nl_n, nl_i, nl_r, Option.toList_some, Option.toList_none, List.cons_append, List.nil_append, h2]
    rw [if_neg (nI_ge hq1 (by omega))]
    simp only [s91_36, s91_37, s91_40, s91_41, s91_42, s91_45, s91_46, eq_self, ixk_some, bd_some, nl_n, nl_i, nl_r, Option.toList_some, Option.toList_none, List.cons_append, List.nil_append, h3, hip, h5 p hp, gp]
    unfold wqF at hr
    have nxt : ∀ b', go 91 91 [some (vr 7 (some 0)), some (vi (wqF s p d (q + 1) b')), some (vi (nI p)), some (vi (nI (c_n s)))] [] m = r → go 91 85 [some (vr 7 (some 0)), some (vi b'), some (vi (nI p)), some (vi (nI q))] [] m = r := by
      intro b' hb'
      have := ih (q + 1) b' (by omega) r hb'
      rw [← this]
      simp only [s91_85i, s91_85r, s91_85n, s91_88, eq_self, ixk_some, bd_some, nl_n, nl_i, nl_r, Option.toList_some, Option.toList_none, List.cons_append, List.nil_append, s1]
    by_cases e1 : c_be s p = 2
    · rw [if_neg (by rw [e1]; decide)]
      simp only [s91_49, s91_50, s91_53, s91_54, s91_55, s91_58, s91_59, eq_self, ixk_some, bd_some, nl_n, nl_i, nl_r, Option.toList_some, Option.toList_none, List.cons_append, List.nil_append, h3, hiq, h5 q hq1, gq]
      by_cases e2 : c_be s q = 2
      · rw [if_pos ⟨e1, e2⟩] at hr
        rw [if_neg (by rw [e2]; decide)]
        have w := go_walk (x := c_nm s q) ⟨h1, h2, h3, h4, h5, h6, h7⟩ hc hp (hd e1 q hq1 e2)
        simp only [s91_62, s91_63, s91_64, s91_67, s91_68, s91_69, s91_70, s91_73, s91_74, s91_75, s91_78, eq_self, ixk_some, bd_some, nl_n, nl_i, nl_r, Option.toList_some, Option.toList_none, List.cons_append, List.nil_append, h3, hip, hiq, h5 p hp, h5 q hq1, gn, w]
        rw [s91_81, s91_84r]
        exact nxt _ hr
      · rw [if_neg (fun z => e2 z.2)] at hr
        rw [if_pos (be_ne2 bq e2)]
        exact nxt b hr
    · rw [if_neg (fun z => e1 z.1)] at hr
      rw [if_pos (be_ne2 bp e1)]
      exact nxt b hr
theorem ws_loop {s : ST} {m : MM} (h : RCp s m) (hc : CLs s) (hd : ∀ p, p < c_n s → c_be s p = 2 → ∀ q, q < c_n s → c_be s q = 2 → wkD s (c_nm s q) 64 p) : ∀ d p (b : Int32) (a3 : Option AV), p + d = c_n s →
    go 91 18 [some (vr 7 (some 0)), some (vi b), some (vi (nI p)), a3] [] m = some (some (vi (wsF s d p b)), m) := by
  have h2 := h.2.1
  have h1 := h.1
  intro d
  induction d with
  | zero => 
    intro p b a3 hp
    rw [s91_18]
    simp only [s91_19, s91_20, s91_23, eq_self, ixk_some, bd_some, nl_n, nl_i, nl_r, Option.toList_some, Option.toList_none, List.cons_append, List.nil_append, h2]
    rw [if_pos (nI_le (by omega) (by omega))]
    simp only [s91_97, s91_98, eq_self, ixk_some, bd_some, nl_n, nl_i, nl_r, Option.toList_some, Option.toList_none, List.cons_append, List.nil_append]
    rfl
  | succ d ih => 
    intro p b a3 hp
    have s1 : nI p + 1 = nI (p + 1) := nI_1 p
    rw [s91_18]
    simp only [s91_19, s91_20, s91_23, eq_self, ixk_some, bd_some, nl_n, nl_i, nl_r, Option.toList_some, Option.toList_none, List.cons_append, List.nil_append, h2]
    rw [if_neg (nI_ge (by omega) (by omega))]
    have := wq_loop h hc (show p < c_n s by omega) (fun e => hd p (by omega) e) (c_n s) 0 b (by omega) _ (show _ = some (some (vi (wsF s (d + 1) p b)), m) from by
      have := ih (p + 1) (wqF s p (c_n s) 0 b) (some (vi (nI (c_n s)))) (by omega)
      simp only [s91_91i, s91_91r, s91_91n, s91_94, eq_self, ixk_some, bd_some, nl_n, nl_i, nl_r, Option.toList_some, Option.toList_none, List.cons_append, List.nil_append, s1, this]
      rfl)
    rw [← this]
    simp only [s91_26, s91_27i, s91_27r, s91_27n, eq_self, ixk_some, bd_some, nl_n, nl_i, nl_r, Option.toList_some, Option.toList_none, List.cons_append, List.nil_append]
    rfl
theorem go_worst {s : ST} {m : MM} (h : RCp s m) (hcc : RCc s m) (hc : CLs s) (hd : c_ck s = 0 → ∀ p, p < c_n s → c_be s p = 2 → ∀ q, q < c_n s → c_be s q = 2 → wkD s (c_nm s q) 64 p) :
    go 91 0 [some (vr 7 (some 0)), none, none, none] [] m = some (some (vi (o_worst s)), m) := by
  have c1 := hcc.1
  have a0 := go_isOn hcc
  unfold o_worst
  by_cases hk : 0 < c_ck s
  · rw [if_pos hk]
    rw [show decide (0 < c_ck s) = true from decide_eq_true hk, b2_t] at a0
    simp [s91_0, s91_1, s91_4, s91_7, s91_10, s91_12, eq_self, ixk_some, bd_some, nl_n, nl_i, nl_r, Option.toList_some, Option.toList_none, List.cons_append, List.nil_append, c1, a0]
  · rw [if_neg hk]
    rw [show decide (0 < c_ck s) = false from decide_eq_false hk, b2_f] at a0
    have := ws_loop h hc (hd (by omega)) (c_n s) 0 (-4) none (by omega)
    rw [← this]
    simp [s91_0, s91_1, s91_4, s91_7, s91_13, s91_15i, s91_15r, s91_15n, s91_16, s91_17i, s91_17r, s91_17n, eq_self, ixk_some, bd_some, nl_n, nl_i, nl_r, Option.toList_some, Option.toList_none, List.cons_append, List.nil_append, c1, a0]
    rfl
