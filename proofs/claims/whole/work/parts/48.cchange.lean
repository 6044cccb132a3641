/-! the class: changeComes -/
theorem RCq_mv2 {s : ST} {m m' : MM} {i : Nat} {A : PRS} (h : RCq s m) (hi : i < c_n s) (h1 : RCl m' (i + 1) A) (h2 : RCl m' 0 []) (hf : fr (fun r n => QP 0 r n ∨ QP (i + 1) r n) m m') : RCq (c_bg_ (c_pr_ s (up1 (c_pr s) i A)) []) m' :=
  RCq_mv1 h hi h1 h2 (fr_le hf (fun r n z => by
    rcases z with z | z
    · exact Or.inr z
    · exact Or.inl z))
/-- the parcel's go to peer i -/
theorem go_unpack {s : ST} {m : MM} {i : Nat} (h : RC s m) (hi : i < c_n s) (hl : (inl1 (c_pr s i) (c_bg s)).length ≤ 16) :
    ∃ m', go 21 0 [some (vr 5 (some 0)), some (vr 5 (some (i + 1))), some (vi 0), some (vi (nI (c_bg s).length)), none] [] m = some (none, m') ∧ RC (c_bg_ (c_pr_ s (up1 (c_pr s) i (inl1 (c_pr s i) (c_bg s)))) []) m' ∧ fK m m' := by
  have hq := h.2.2.2.2.2.1
  have e0 : ((c_bg s).drop 0).take ((c_bg s).length - 0) = c_bg s := by
    rw [List.drop_zero, Nat.sub_zero, List.take_length]
  obtain ⟨m1, a1, a2, a3, a4⟩ := go_moveTo (p := 0) (q := i + 1) (a := 0) (b := (c_bg s).length) (by omega) hq.1 (hq.2 i hi) (Nat.zero_le _) (Nat.le_refl _) (by rw [e0]; exact hl)
  rw [e0] at a3
  have e1 : (c_bg s).take 0 ++ (c_bg s).drop (c_bg s).length = [] := by simp
  rw [e1] at a2
  exact ⟨m1, a1, RC_mv h (RCq_mv2 hq hi a3 a2 a4) a4 (by simp only [SEc, nop, plc, c_n_n, c_n_nm, c_n_bt, c_n_be, c_n_ld, c_n_hs, c_n_kl, c_n_ol, c_n_pr, c_n_dr, c_n_ev, c_n_na, c_n_ak, c_n_ms, c_n_ck, c_n_cp, c_n_cu, c_n_cb, c_n_bg, c_nm_n, c_nm_nm, c_nm_bt, c_nm_be, c_nm_ld, c_nm_hs, c_nm_kl, c_nm_ol, c_nm_pr, c_nm_dr, c_nm_ev, c_nm_na, c_nm_ak, c_nm_ms, c_nm_ck, c_nm_cp, c_nm_cu, c_nm_cb, c_nm_bg, c_bt_n, c_bt_nm, c_bt_bt, c_bt_be, c_bt_ld, c_bt_hs, c_bt_kl, c_bt_ol, c_bt_pr, c_bt_dr, c_bt_ev, c_bt_na, c_bt_ak, c_bt_ms, c_bt_ck, c_bt_cp, c_bt_cu, c_bt_cb, c_bt_bg, c_be_n, c_be_nm, c_be_bt, c_be_be, c_be_ld, c_be_hs, c_be_kl, c_be_ol, c_be_pr, c_be_dr, c_be_ev, c_be_na, c_be_ak, c_be_ms, c_be_ck, c_be_cp, c_be_cu, c_be_cb, c_be_bg, c_ld_n, c_ld_nm, c_ld_bt, c_ld_be, c_ld_ld, c_ld_hs, c_ld_kl, c_ld_ol, c_ld_pr, c_ld_dr, c_ld_ev, c_ld_na, c_ld_ak, c_ld_ms, c_ld_ck, c_ld_cp, c_ld_cu, c_ld_cb, c_ld_bg, c_hs_n, c_hs_nm, c_hs_bt, c_hs_be, c_hs_ld, c_hs_hs, c_hs_kl, c_hs_ol, c_hs_pr, c_hs_dr, c_hs_ev, c_hs_na, c_hs_ak, c_hs_ms, c_hs_ck, c_hs_cp, c_hs_cu, c_hs_cb, c_hs_bg, c_kl_n, c_kl_nm, c_kl_bt, c_kl_be, c_kl_ld, c_kl_hs, c_kl_kl, c_kl_ol, c_kl_pr, c_kl_dr, c_kl_ev, c_kl_na, c_kl_ak, c_kl_ms, c_kl_ck, c_kl_cp, c_kl_cu, c_kl_cb, c_kl_bg, c_ol_n, c_ol_nm, c_ol_bt, c_ol_be, c_ol_ld, c_ol_hs, c_ol_kl, c_ol_ol, c_ol_pr, c_ol_dr, c_ol_ev, c_ol_na, c_ol_ak, c_ol_ms, c_ol_ck, c_ol_cp, c_ol_cu, c_ol_cb, c_ol_bg, c_pr_n, c_pr_nm, c_pr_bt, c_pr_be, c_pr_ld, c_pr_hs, c_pr_kl, c_pr_ol, c_pr_pr, c_pr_dr, c_pr_ev, c_pr_na, c_pr_ak, c_pr_ms, c_pr_ck, c_pr_cp, c_pr_cu, c_pr_cb, c_pr_bg, c_dr_n, c_dr_nm, c_dr_bt, c_dr_be, c_dr_ld, c_dr_hs, c_dr_kl, c_dr_ol, c_dr_pr, c_dr_dr, c_dr_ev, c_dr_na, c_dr_ak, c_dr_ms, c_dr_ck, c_dr_cp, c_dr_cu, c_dr_cb, c_dr_bg, c_ev_n, c_ev_nm, c_ev_bt, c_ev_be, c_ev_ld, c_ev_hs, c_ev_kl, c_ev_ol, c_ev_pr, c_ev_dr, c_ev_ev, c_ev_na, c_ev_ak, c_ev_ms, c_ev_ck, c_ev_cp, c_ev_cu, c_ev_cb, c_ev_bg, c_na_n, c_na_nm, c_na_bt, c_na_be, c_na_ld, c_na_hs, c_na_kl, c_na_ol, c_na_pr, c_na_dr, c_na_ev, c_na_na, c_na_ak, c_na_ms, c_na_ck, c_na_cp, c_na_cu, c_na_cb, c_na_bg, c_ak_n, c_ak_nm, c_ak_bt, c_ak_be, c_ak_ld, c_ak_hs, c_ak_kl, c_ak_ol, c_ak_pr, c_ak_dr, c_ak_ev, c_ak_na, c_ak_ak, c_ak_ms, c_ak_ck, c_ak_cp, c_ak_cu, c_ak_cb, c_ak_bg, c_ms_n, c_ms_nm, c_ms_bt, c_ms_be, c_ms_ld, c_ms_hs, c_ms_kl, c_ms_ol, c_ms_pr, c_ms_dr, c_ms_ev, c_ms_na, c_ms_ak, c_ms_ms, c_ms_ck, c_ms_cp, c_ms_cu, c_ms_cb, c_ms_bg, c_ck_n, c_ck_nm, c_ck_bt, c_ck_be, c_ck_ld, c_ck_hs, c_ck_kl, c_ck_ol, c_ck_pr, c_ck_dr, c_ck_ev, c_ck_na, c_ck_ak, c_ck_ms, c_ck_ck, c_ck_cp, c_ck_cu, c_ck_cb, c_ck_bg, c_cp_n, c_cp_nm, c_cp_bt, c_cp_be, c_cp_ld, c_cp_hs, c_cp_kl, c_cp_ol, c_cp_pr, c_cp_dr, c_cp_ev, c_cp_na, c_cp_ak, c_cp_ms, c_cp_ck, c_cp_cp, c_cp_cu, c_cp_cb, c_cp_bg, c_cu_n, c_cu_nm, c_cu_bt, c_cu_be, c_cu_ld, c_cu_hs, c_cu_kl, c_cu_ol, c_cu_pr, c_cu_dr, c_cu_ev, c_cu_na, c_cu_ak, c_cu_ms, c_cu_ck, c_cu_cp, c_cu_cu, c_cu_cb, c_cu_bg, c_cb_n, c_cb_nm, c_cb_bt, c_cb_be, c_cb_ld, c_cb_hs, c_cb_kl, c_cb_ol, c_cb_pr, c_cb_dr, c_cb_ev, c_cb_na, c_cb_ak, c_cb_ms, c_cb_ck, c_cb_cp, c_cb_cu, c_cb_cb, c_cb_bg, c_bg_n, c_bg_nm, c_bg_bt, c_bg_be, c_bg_ld, c_bg_hs, c_bg_kl, c_bg_ol, c_bg_pr, c_bg_dr, c_bg_ev, c_bg_na, c_bg_ak, c_bg_ms, c_bg_ck, c_bg_cp, c_bg_cu, c_bg_cb, c_bg_bg, and_self]) ⟨rfl, rfl, rfl, rfl⟩, fK_fr a4 QP_K⟩
def comesCh (s : ST) (g : MSG) : ST :=
  let u := c_cp s
  let l := (g_lv g).getD 0
  if g_so g = 5 then comesJoin s (g_to g)
  else if g_so g = 6 then linked (c_bg_ (c_pr_ (plc (nop (c_be_ s (up1 (c_be s) u 2)) u 0) u 0 (g_lf g) (g_rg g)) (up1 (c_pr s) u (inl1 [] (c_bg s)))) []) u 0
  else if g_so g = 7 then comesLink s (g_to g) l (g_sd g) (if g_sd g = 0 then g_lf g else g_rg g)
  else if g_so g = 8 then comesSeek s (g_to g) l (g_sd g)
  else if g_so g = 9 then linked (plc s u l (g_lf g) (g_rg g)) u l
  else c_bg_ (c_pr_ s (up1 (c_pr s) (g_to g) (inl1 (c_pr s (g_to g)) (c_bg s)))) []
/-- what must hold of a change's message that is taken -/
def GCh (s : ST) (g : MSG) : Prop := 0 < c_ck s ∧ c_cp s < c_n s ∧ g_to g < c_n s ∧ g_sd g < 2 ∧ (g_so g = 5 ∨ g_so g = 6 ∨ g_so g = 7 ∨ g_so g = 8 ∨ g_so g = 9 ∨ g_so g = 10) ∧
  (g_so g = 5 → srt (c_pr s (g_to g)) ∧ c_bg s = [] ∧ (onw s (g_to g) (c_nm s (c_cp s)) = none → awy s (g_to g) = false)) ∧
  (g_so g = 6 → (inl1 [] (c_bg s)).length ≤ 16) ∧ (g_so g = 7 → ∃ l, g_lv g = some l ∧ l < 9) ∧ (g_so g = 8 → ∃ l, g_lv g = some l ∧ l < 8) ∧ (g_so g = 9 → ∃ l, g_lv g = some l ∧ l < 9) ∧ (g_so g = 10 → (inl1 (c_pr s (g_to g)) (c_bg s)).length ≤ 16)
theorem up1_up1 {α : Type} (f : Nat → α) (i : Nat) (a b : α) : up1 (up1 f i a) i b = up1 f i b := by
  funext j
  unfold up1
  by_cases h : j = i <;> simp [h]
theorem go_give {s : ST} {m : MM} {g : MSG} {n : Nat} (h : RC s m) (hn : RC3 g m n) (hlt : mR m 3 0 3 = some n) (hu : c_cp s < c_n s) (hb : (inl1 [] (c_bg s)).length ≤ 16) (hc : (c_ms s).length + 3 ≤ 192) :
    ∃ m', go 74 64 [some (vr 7 (some 0)), some (vr 4 (some n)), some (vr 6 (some (c_cp s)))] [] m = some (none, m') ∧ RC (linked (c_bg_ (c_pr_ (plc (nop (c_be_ s (up1 (c_be s) (c_cp s) 2)) (c_cp s) 0) (c_cp s) 0 (g_lf g) (g_rg g)) (up1 (c_pr s) (c_cp s) (inl1 [] (c_bg s)))) []) (c_cp s) 0) m' ∧ fK m m' := by
  obtain ⟨n0, n1, n2, n3, n4, n5, n6⟩ := hn
  have tl : ∀ o : Option Nat, ∃ t, o = none ∨ t = 6 := fun o => ⟨6, Or.inr rfl⟩
  have c1 := h.2.1.1
  have c7 := h.2.1.2.2.2.2.2.2
  obtain ⟨m1, a1, a2, a3, a4⟩ := go_comeIn (i := c_cp s) (t := 6) (t' := 6) (o := g_lf g) (o' := g_rg g) h.1 h.2.2.2.2.2.1 hu (Or.inr rfl) (Or.inr rfl)
  let s1 := c_pr_ (plc (nop (c_be_ s (up1 (c_be s) (c_cp s) 2)) (c_cp s) 0) (c_cp s) 0 (g_lf g) (g_rg g)) (up1 (c_pr s) (c_cp s) [])
  have hQ : ∀ r k, QI (c_cp s) r k → r = 6 ∨ r = 14 ∨ r = 15 ∨ r = 5 := fun r k z => by
    rcases z with z | z
    · have := z.1; omega
    · omega
  have R1 : RC s1 m1 := ⟨a2, RCc_fr h.2.1 a4 (fun r k z => by have := hQ r k z; omega), RCk_fr h.2.2.1 a4 (fun r k z => by have := hQ r k z; omega), RCa_fr h.2.2.2.1 a4 (fun r k z => by have := hQ r k z; omega), RCm_fr h.2.2.2.2.1 a4 (fun r k z => by have := hQ r k z; omega), a3, RCs_fg h.2.2.2.2.2.2.1 (fg_fr a4) (fun r k z => by have := hQ r k z; omega), RCn_fr h.2.2.2.2.2.2.2 a4⟩
  have F1 : fK m m1 := fK_fr a4 (fun r k z => by have := hQ r k z; omega)
  have e0 : c_pr s1 (c_cp s) = [] := if_pos rfl
  obtain ⟨m2, b1, b2, b3⟩ := go_unpack (i := c_cp s) R1 hu (by rw [e0]; exact hb)
  rw [e0] at b2
  have e1 : c_bg_ (c_pr_ s1 (up1 (c_pr s1) (c_cp s) (inl1 [] (c_bg s1)))) [] = c_bg_ (c_pr_ (plc (nop (c_be_ s (up1 (c_be s) (c_cp s) 2)) (c_cp s) 0) (c_cp s) 0 (g_lf g) (g_rg g)) (up1 (c_pr s) (c_cp s) (inl1 [] (c_bg s)))) [] := by
    have : up1 (c_pr s1) (c_cp s) (inl1 [] (c_bg s1)) = up1 (c_pr s) (c_cp s) (inl1 [] (c_bg s)) := up1_up1 (c_pr s) (c_cp s) [] _
    rw [this]
    rfl
  rw [e1] at b2
  obtain ⟨m3, d1, d2, d3⟩ := go_becomeLinked (u := c_cp s) (l := 0) b2 hu (by decide) hc
  refine ⟨m3, ?_, d2, fK_tr F1 (fK_tr b3 d3)⟩
  have g9 := (R1.1.2.2.2.2.2.2 _ hu).2.2.2.2.2.2.2.2.2.1
  have g3 := R1.2.2.2.2.2.1.1.1.2.2.1
  have c1' := R1.2.1.1
  have c7' := R1.2.1.2.2.2.2.2.2
  have d1 : go 77 0 [some (vr 7 (some 0)), some (vr 6 (some (c_cp s))), some (vi 0)] [] m2 = some (none, m3) := d1
  simp only [s74_0, s74_1, s74_4, s74_7i, s74_7r, s74_7n, s74_8, s74_9n, s74_9s, s74_12, s74_13, s74_14, s74_17_5, s74_17_6, s74_17_7, s74_17_8, s74_17_9, s74_17_d, s74_52, s74_53, s74_54, s74_55, s74_58, s74_61, s74_64, s74_65, s74_66, s74_69, s74_70, s74_73, s74_76, s74_77, s74_80, s74_83, s74_84, s74_87, s74_88, s74_89, s74_92, s74_95, s74_98, s74_101, s74_102, s74_103, s74_104, s74_107, s74_110, s74_111, s74_112, s74_115, s74_116, s74_119, s74_120, s74_123, s74_124, s74_127, s74_130, s74_131, s74_134, s74_137, s74_138, s74_141, s74_144, s74_147, s74_148, s74_149, s74_150, s74_153, s74_154, s74_157, s74_158, s74_161, s74_164, s74_167, s74_168, s74_169, s74_172, s74_173, s74_176, s74_177, s74_180, s74_183, s74_184, s74_185, s74_186, s74_189, s74_192, s74_195, s74_196, s74_199, s74_202, s74_203, s74_206, s74_209, s74_210, s74_211, s74_214, s74_217, s74_220, s74_223, eq_self, ixk_some, bd_some, nl_n, nl_i, nl_r, Option.toList_some, Option.toList_none, List.cons_append, List.nil_append, n5, n6, a1, c1', c7', g9, g3, b1, d1]
theorem go_changeComes {s : ST} {m : MM} {g : MSG} {n : Nat} (h : RC s m) (hcl : CLs s) (hn : RC3 g m n) (hlt : mR m 3 0 3 = some n) (hg : GCh s g) (hc : (c_ms s).length + 3 ≤ 192) :
    ∃ m', go 74 0 [some (vr 7 (some 0)), some (vr 4 (some n)), none] [] m = some (none, m') ∧ RC (comesCh s g) m' ∧ fK m m' := by
  obtain ⟨gk, gu, gt, gs, g0, g5, g6, g7, g8, g9, g10⟩ := hg
  have hn' := hn
  obtain ⟨n0, n1, n2, n3, n4, n5, n6⟩ := hn'
  have c1 := h.2.1.1
  have c4 := h.2.1.2.2.2.1
  rw [if_neg (by omega)] at c4
  have c7 := h.2.1.2.2.2.2.2.2
  have base : ∀ r, go 74 17 [some (vr 7 (some 0)), some (vr 4 (some n)), some (vr 6 (some (c_cp s)))] [vi (nI (g_so g))] m = r → go 74 0 [some (vr 7 (some 0)), some (vr 4 (some n)), none] [] m = r := by
    intro r hr
    rw [← hr]
    simp only [s74_0, s74_1, s74_4, s74_7i, s74_7r, s74_7n, s74_8, s74_9n, s74_9s, s74_13, s74_14, eq_self, ixk_some, bd_some, nl_n, nl_i, nl_r, Option.toList_some, Option.toList_none, List.cons_append, List.nil_append, c1, c4, n0]
  unfold comesCh
  rcases g0 with e | e | e | e | e | e
  · obtain ⟨p1, p2, p3⟩ := g5 e
    simp only [e, if_true]
    obtain ⟨m', a1, a2, a3⟩ := go_joinComes h hcl gt gu p1 p2 (by omega) p3
    refine ⟨m', base _ ?_, a2, a3⟩
    rw [e, show nI 5 = 5 from rfl]
    simp only [s74_0, s74_1, s74_4, s74_7i, s74_7r, s74_7n, s74_8, s74_9n, s74_9s, s74_12, s74_13, s74_14, s74_17_5, s74_17_6, s74_17_7, s74_17_8, s74_17_9, s74_17_d, s74_52, s74_53, s74_54, s74_55, s74_58, s74_61, s74_64, s74_65, s74_66, s74_69, s74_70, s74_73, s74_76, s74_77, s74_80, s74_83, s74_84, s74_87, s74_88, s74_89, s74_92, s74_95, s74_98, s74_101, s74_102, s74_103, s74_104, s74_107, s74_110, s74_111, s74_112, s74_115, s74_116, s74_119, s74_120, s74_123, s74_124, s74_127, s74_130, s74_131, s74_134, s74_137, s74_138, s74_141, s74_144, s74_147, s74_148, s74_149, s74_150, s74_153, s74_154, s74_157, s74_158, s74_161, s74_164, s74_167, s74_168, s74_169, s74_172, s74_173, s74_176, s74_177, s74_180, s74_183, s74_184, s74_185, s74_186, s74_189, s74_192, s74_195, s74_196, s74_199, s74_202, s74_203, s74_206, s74_209, s74_210, s74_211, s74_214, s74_217, s74_220, s74_223, eq_self, ixk_some, bd_some, nl_n, nl_i, nl_r, Option.toList_some, Option.toList_none, List.cons_append, List.nil_append, n1, a1]
  · simp only [e, Nat.reduceEqDiff, if_true, if_false]
    obtain ⟨m', a1, a2, a3⟩ := go_give h hn hlt gu (g6 e) hc
    refine ⟨m', base _ ?_, a2, a3⟩
    rw [e, show nI 6 = 6 from rfl]
    simp only [s74_17_5, s74_17_6, s74_17_7, s74_17_8, s74_17_9, s74_17_d]
    exact a1
  · simp only [e, Nat.reduceEqDiff, if_true, if_false]
    obtain ⟨l, e1, e2⟩ := g7 e
    rw [e1] at n3 ⊢
    have n3 : mI m 4 n 3 = nI l := n3
    have gs2 : g_sd g = 0 ∨ g_sd g = 1 := by omega
    rcases gs2 with e3 | e3
    · rw [e3] at n4 ⊢
      obtain ⟨m', a1, a2, a3⟩ := go_linkComes (d := 0) (t := 6) (who := g_lf g) h gt e2 (by decide) (Or.inr rfl)
      refine ⟨m', base _ ?_, a2, a3⟩
      rw [e, show nI 7 = 7 from rfl]
      rw [show nI 0 = 0 from rfl] at n4 a1
      simp [s74_0, s74_1, s74_4, s74_7i, s74_7r, s74_7n, s74_8, s74_9n, s74_9s, s74_12, s74_13, s74_14, s74_17_5, s74_17_6, s74_17_7, s74_17_8, s74_17_9, s74_17_d, s74_52, s74_53, s74_54, s74_55, s74_58, s74_61, s74_64, s74_65, s74_66, s74_69, s74_70, s74_73, s74_76, s74_77, s74_80, s74_83, s74_84, s74_87, s74_88, s74_89, s74_92, s74_95, s74_98, s74_101, s74_102, s74_103, s74_104, s74_107, s74_110, s74_111, s74_112, s74_115, s74_116, s74_119, s74_120, s74_123, s74_124, s74_127, s74_130, s74_131, s74_134, s74_137, s74_138, s74_141, s74_144, s74_147, s74_148, s74_149, s74_150, s74_153, s74_154, s74_157, s74_158, s74_161, s74_164, s74_167, s74_168, s74_169, s74_172, s74_173, s74_176, s74_177, s74_180, s74_183, s74_184, s74_185, s74_186, s74_189, s74_192, s74_195, s74_196, s74_199, s74_202, s74_203, s74_206, s74_209, s74_210, s74_211, s74_214, s74_217, s74_220, s74_223, eq_self, ixk_some, bd_some, nl_n, nl_i, nl_r, Option.toList_some, Option.toList_none, List.cons_append, List.nil_append, n1, n3, n4, n5, a1]
    · rw [e3] at n4 ⊢
      obtain ⟨m', a1, a2, a3⟩ := go_linkComes (d := 1) (t := 6) (who := g_rg g) h gt e2 (by decide) (Or.inr rfl)
      refine ⟨m', base _ ?_, a2, a3⟩
      rw [e, show nI 7 = 7 from rfl]
      rw [show nI 1 = 1 from rfl] at n4 a1
      simp [s74_0, s74_1, s74_4, s74_7i, s74_7r, s74_7n, s74_8, s74_9n, s74_9s, s74_12, s74_13, s74_14, s74_17_5, s74_17_6, s74_17_7, s74_17_8, s74_17_9, s74_17_d, s74_52, s74_53, s74_54, s74_55, s74_58, s74_61, s74_64, s74_65, s74_66, s74_69, s74_70, s74_73, s74_76, s74_77, s74_80, s74_83, s74_84, s74_87, s74_88, s74_89, s74_92, s74_95, s74_98, s74_101, s74_102, s74_103, s74_104, s74_107, s74_110, s74_111, s74_112, s74_115, s74_116, s74_119, s74_120, s74_123, s74_124, s74_127, s74_130, s74_131, s74_134, s74_137, s74_138, s74_141, s74_144, s74_147, s74_148, s74_149, s74_150, s74_153, s74_154, s74_157, s74_158, s74_161, s74_164, s74_167, s74_168, s74_169, s74_172, s74_173, s74_176, s74_177, s74_180, s74_183, s74_184, s74_185, s74_186, s74_189, s74_192, s74_195, s74_196, s74_199, s74_202, s74_203, s74_206, s74_209, s74_210, s74_211, s74_214, s74_217, s74_220, s74_223, eq_self, ixk_some, bd_some, nl_n, nl_i, nl_r, Option.toList_some, Option.toList_none, List.cons_append, List.nil_append, n1, n3, n4, n6, a1]
  · simp only [e, Nat.reduceEqDiff, if_true, if_false]
    obtain ⟨l, e1, e2⟩ := g8 e
    rw [e1] at n3 ⊢
    have n3 : mI m 4 n 3 = nI l := n3
    have gs2 : g_sd g = 0 ∨ g_sd g = 1 := by omega
    rcases gs2 with e3 | e3
    · rw [e3] at n4 ⊢
      obtain ⟨m', a1, a2, a3⟩ := go_seek0 h gu gt e2 (by omega)
      refine ⟨m', base _ ?_, a2, a3⟩
      rw [e, show nI 8 = 8 from rfl]
      rw [show nI 0 = 0 from rfl] at n4
      simp only [s74_0, s74_1, s74_4, s74_7i, s74_7r, s74_7n, s74_8, s74_9n, s74_9s, s74_12, s74_13, s74_14, s74_17_5, s74_17_6, s74_17_7, s74_17_8, s74_17_9, s74_17_d, s74_52, s74_53, s74_54, s74_55, s74_58, s74_61, s74_64, s74_65, s74_66, s74_69, s74_70, s74_73, s74_76, s74_77, s74_80, s74_83, s74_84, s74_87, s74_88, s74_89, s74_92, s74_95, s74_98, s74_101, s74_102, s74_103, s74_104, s74_107, s74_110, s74_111, s74_112, s74_115, s74_116, s74_119, s74_120, s74_123, s74_124, s74_127, s74_130, s74_131, s74_134, s74_137, s74_138, s74_141, s74_144, s74_147, s74_148, s74_149, s74_150, s74_153, s74_154, s74_157, s74_158, s74_161, s74_164, s74_167, s74_168, s74_169, s74_172, s74_173, s74_176, s74_177, s74_180, s74_183, s74_184, s74_185, s74_186, s74_189, s74_192, s74_195, s74_196, s74_199, s74_202, s74_203, s74_206, s74_209, s74_210, s74_211, s74_214, s74_217, s74_220, s74_223, eq_self, ixk_some, bd_some, nl_n, nl_i, nl_r, Option.toList_some, Option.toList_none, List.cons_append, List.nil_append, n1, n3, n4, a1]
    · rw [e3] at n4 ⊢
      obtain ⟨m', a1, a2, a3⟩ := go_seek1 h gu gt e2 (by omega)
      refine ⟨m', base _ ?_, a2, a3⟩
      rw [e, show nI 8 = 8 from rfl]
      rw [show nI 1 = 1 from rfl] at n4
      simp only [s74_0, s74_1, s74_4, s74_7i, s74_7r, s74_7n, s74_8, s74_9n, s74_9s, s74_12, s74_13, s74_14, s74_17_5, s74_17_6, s74_17_7, s74_17_8, s74_17_9, s74_17_d, s74_52, s74_53, s74_54, s74_55, s74_58, s74_61, s74_64, s74_65, s74_66, s74_69, s74_70, s74_73, s74_76, s74_77, s74_80, s74_83, s74_84, s74_87, s74_88, s74_89, s74_92, s74_95, s74_98, s74_101, s74_102, s74_103, s74_104, s74_107, s74_110, s74_111, s74_112, s74_115, s74_116, s74_119, s74_120, s74_123, s74_124, s74_127, s74_130, s74_131, s74_134, s74_137, s74_138, s74_141, s74_144, s74_147, s74_148, s74_149, s74_150, s74_153, s74_154, s74_157, s74_158, s74_161, s74_164, s74_167, s74_168, s74_169, s74_172, s74_173, s74_176, s74_177, s74_180, s74_183, s74_184, s74_185, s74_186, s74_189, s74_192, s74_195, s74_196, s74_199, s74_202, s74_203, s74_206, s74_209, s74_210, s74_211, s74_214, s74_217, s74_220, s74_223, eq_self, ixk_some, bd_some, nl_n, nl_i, nl_r, Option.toList_some, Option.toList_none, List.cons_append, List.nil_append, n1, n3, n4, a1]
  · simp only [e, Nat.reduceEqDiff, if_true, if_false]
    obtain ⟨l, e1, e2⟩ := g9 e
    rw [e1] at n3 ⊢
    have n3 : mI m 4 n 3 = nI l := n3
    obtain ⟨m1, a1, a2, a3⟩ := go_setPlace (l := l) (t := 6) (t' := 6) (o := g_lf g) (o' := g_rg g) h.1 gu e2 (Or.inr rfl) (Or.inr rfl)
    have R1 := RC_P h a2 a3 QE_P (by simp only [SEr, nop, plc, c_n_n, c_n_nm, c_n_bt, c_n_be, c_n_ld, c_n_hs, c_n_kl, c_n_ol, c_n_pr, c_n_dr, c_n_ev, c_n_na, c_n_ak, c_n_ms, c_n_ck, c_n_cp, c_n_cu, c_n_cb, c_n_bg, c_nm_n, c_nm_nm, c_nm_bt, c_nm_be, c_nm_ld, c_nm_hs, c_nm_kl, c_nm_ol, c_nm_pr, c_nm_dr, c_nm_ev, c_nm_na, c_nm_ak, c_nm_ms, c_nm_ck, c_nm_cp, c_nm_cu, c_nm_cb, c_nm_bg, c_bt_n, c_bt_nm, c_bt_bt, c_bt_be, c_bt_ld, c_bt_hs, c_bt_kl, c_bt_ol, c_bt_pr, c_bt_dr, c_bt_ev, c_bt_na, c_bt_ak, c_bt_ms, c_bt_ck, c_bt_cp, c_bt_cu, c_bt_cb, c_bt_bg, c_be_n, c_be_nm, c_be_bt, c_be_be, c_be_ld, c_be_hs, c_be_kl, c_be_ol, c_be_pr, c_be_dr, c_be_ev, c_be_na, c_be_ak, c_be_ms, c_be_ck, c_be_cp, c_be_cu, c_be_cb, c_be_bg, c_ld_n, c_ld_nm, c_ld_bt, c_ld_be, c_ld_ld, c_ld_hs, c_ld_kl, c_ld_ol, c_ld_pr, c_ld_dr, c_ld_ev, c_ld_na, c_ld_ak, c_ld_ms, c_ld_ck, c_ld_cp, c_ld_cu, c_ld_cb, c_ld_bg, c_hs_n, c_hs_nm, c_hs_bt, c_hs_be, c_hs_ld, c_hs_hs, c_hs_kl, c_hs_ol, c_hs_pr, c_hs_dr, c_hs_ev, c_hs_na, c_hs_ak, c_hs_ms, c_hs_ck, c_hs_cp, c_hs_cu, c_hs_cb, c_hs_bg, c_kl_n, c_kl_nm, c_kl_bt, c_kl_be, c_kl_ld, c_kl_hs, c_kl_kl, c_kl_ol, c_kl_pr, c_kl_dr, c_kl_ev, c_kl_na, c_kl_ak, c_kl_ms, c_kl_ck, c_kl_cp, c_kl_cu, c_kl_cb, c_kl_bg, c_ol_n, c_ol_nm, c_ol_bt, c_ol_be, c_ol_ld, c_ol_hs, c_ol_kl, c_ol_ol, c_ol_pr, c_ol_dr, c_ol_ev, c_ol_na, c_ol_ak, c_ol_ms, c_ol_ck, c_ol_cp, c_ol_cu, c_ol_cb, c_ol_bg, c_pr_n, c_pr_nm, c_pr_bt, c_pr_be, c_pr_ld, c_pr_hs, c_pr_kl, c_pr_ol, c_pr_pr, c_pr_dr, c_pr_ev, c_pr_na, c_pr_ak, c_pr_ms, c_pr_ck, c_pr_cp, c_pr_cu, c_pr_cb, c_pr_bg, c_dr_n, c_dr_nm, c_dr_bt, c_dr_be, c_dr_ld, c_dr_hs, c_dr_kl, c_dr_ol, c_dr_pr, c_dr_dr, c_dr_ev, c_dr_na, c_dr_ak, c_dr_ms, c_dr_ck, c_dr_cp, c_dr_cu, c_dr_cb, c_dr_bg, c_ev_n, c_ev_nm, c_ev_bt, c_ev_be, c_ev_ld, c_ev_hs, c_ev_kl, c_ev_ol, c_ev_pr, c_ev_dr, c_ev_ev, c_ev_na, c_ev_ak, c_ev_ms, c_ev_ck, c_ev_cp, c_ev_cu, c_ev_cb, c_ev_bg, c_na_n, c_na_nm, c_na_bt, c_na_be, c_na_ld, c_na_hs, c_na_kl, c_na_ol, c_na_pr, c_na_dr, c_na_ev, c_na_na, c_na_ak, c_na_ms, c_na_ck, c_na_cp, c_na_cu, c_na_cb, c_na_bg, c_ak_n, c_ak_nm, c_ak_bt, c_ak_be, c_ak_ld, c_ak_hs, c_ak_kl, c_ak_ol, c_ak_pr, c_ak_dr, c_ak_ev, c_ak_na, c_ak_ak, c_ak_ms, c_ak_ck, c_ak_cp, c_ak_cu, c_ak_cb, c_ak_bg, c_ms_n, c_ms_nm, c_ms_bt, c_ms_be, c_ms_ld, c_ms_hs, c_ms_kl, c_ms_ol, c_ms_pr, c_ms_dr, c_ms_ev, c_ms_na, c_ms_ak, c_ms_ms, c_ms_ck, c_ms_cp, c_ms_cu, c_ms_cb, c_ms_bg, c_ck_n, c_ck_nm, c_ck_bt, c_ck_be, c_ck_ld, c_ck_hs, c_ck_kl, c_ck_ol, c_ck_pr, c_ck_dr, c_ck_ev, c_ck_na, c_ck_ak, c_ck_ms, c_ck_ck, c_ck_cp, c_ck_cu, c_ck_cb, c_ck_bg, c_cp_n, c_cp_nm, c_cp_bt, c_cp_be, c_cp_ld, c_cp_hs, c_cp_kl, c_cp_ol, c_cp_pr, c_cp_dr, c_cp_ev, c_cp_na, c_cp_ak, c_cp_ms, c_cp_ck, c_cp_cp, c_cp_cu, c_cp_cb, c_cp_bg, c_cu_n, c_cu_nm, c_cu_bt, c_cu_be, c_cu_ld, c_cu_hs, c_cu_kl, c_cu_ol, c_cu_pr, c_cu_dr, c_cu_ev, c_cu_na, c_cu_ak, c_cu_ms, c_cu_ck, c_cu_cp, c_cu_cu, c_cu_cb, c_cu_bg, c_cb_n, c_cb_nm, c_cb_bt, c_cb_be, c_cb_ld, c_cb_hs, c_cb_kl, c_cb_ol, c_cb_pr, c_cb_dr, c_cb_ev, c_cb_na, c_cb_ak, c_cb_ms, c_cb_ck, c_cb_cp, c_cb_cu, c_cb_cb, c_cb_bg, c_bg_n, c_bg_nm, c_bg_bt, c_bg_be, c_bg_ld, c_bg_hs, c_bg_kl, c_bg_ol, c_bg_pr, c_bg_dr, c_bg_ev, c_bg_na, c_bg_ak, c_bg_ms, c_bg_ck, c_bg_cp, c_bg_cu, c_bg_cb, c_bg_bg, and_self])
    have F1 : fK m m1 := fK_fr a3 QE_K
    have n3' := (RC3_fK hn F1 hlt).2.2.2.1
    rw [e1] at n3'
    have n3' : mI m1 4 n 3 = nI l := n3'
    obtain ⟨m2, b1, b2, b3⟩ := go_becomeLinked (u := c_cp s) (l := l) R1 gu e2 hc
    refine ⟨m2, base _ ?_, b2, fK_tr F1 b3⟩
    rw [e, show nI 9 = 9 from rfl]
    simp only [s74_0, s74_1, s74_4, s74_7i, s74_7r, s74_7n, s74_8, s74_9n, s74_9s, s74_12, s74_13, s74_14, s74_17_5, s74_17_6, s74_17_7, s74_17_8, s74_17_9, s74_17_d, s74_52, s74_53, s74_54, s74_55, s74_58, s74_61, s74_64, s74_65, s74_66, s74_69, s74_70, s74_73, s74_76, s74_77, s74_80, s74_83, s74_84, s74_87, s74_88, s74_89, s74_92, s74_95, s74_98, s74_101, s74_102, s74_103, s74_104, s74_107, s74_110, s74_111, s74_112, s74_115, s74_116, s74_119, s74_120, s74_123, s74_124, s74_127, s74_130, s74_131, s74_134, s74_137, s74_138, s74_141, s74_144, s74_147, s74_148, s74_149, s74_150, s74_153, s74_154, s74_157, s74_158, s74_161, s74_164, s74_167, s74_168, s74_169, s74_172, s74_173, s74_176, s74_177, s74_180, s74_183, s74_184, s74_185, s74_186, s74_189, s74_192, s74_195, s74_196, s74_199, s74_202, s74_203, s74_206, s74_209, s74_210, s74_211, s74_214, s74_217, s74_220, s74_223, eq_self, ixk_some, bd_some, nl_n, nl_i, nl_r, Option.toList_some, Option.toList_none, List.cons_append, List.nil_append, n3, n5, n6, a1, n3', b1]
  · simp only [e, Nat.reduceEqDiff, if_false]
    obtain ⟨m', a1, a2, a3⟩ := go_unpack h gt (g10 e)
    refine ⟨m', base _ ?_, a2, a3⟩
    have g9' := (h.1.2.2.2.2.2.2 _ gt).2.2.2.2.2.2.2.2.2.1
    have g3 := h.2.2.2.2.2.1.1.1.2.2.1
    rw [e, s74_17_d (Or.inr (by decide))]
    simp only [s74_0, s74_1, s74_4, s74_7i, s74_7r, s74_7n, s74_8, s74_9n, s74_9s, s74_12, s74_13, s74_14, s74_52, s74_53, s74_54, s74_55, s74_58, s74_61, s74_64, s74_65, s74_66, s74_69, s74_70, s74_73, s74_76, s74_77, s74_80, s74_83, s74_84, s74_87, s74_88, s74_89, s74_92, s74_95, s74_98, s74_101, s74_102, s74_103, s74_104, s74_107, s74_110, s74_111, s74_112, s74_115, s74_116, s74_119, s74_120, s74_123, s74_124, s74_127, s74_130, s74_131, s74_134, s74_137, s74_138, s74_141, s74_144, s74_147, s74_148, s74_149, s74_150, s74_153, s74_154, s74_157, s74_158, s74_161, s74_164, s74_167, s74_168, s74_169, s74_172, s74_173, s74_176, s74_177, s74_180, s74_183, s74_184, s74_185, s74_186, s74_189, s74_192, s74_195, s74_196, s74_199, s74_202, s74_203, s74_206, s74_209, s74_210, s74_211, s74_214, s74_217, s74_220, s74_223, eq_self, ixk_some, bd_some, nl_n, nl_i, nl_r, Option.toList_some, Option.toList_none, List.cons_append, List.nil_append, n1, c1, c7, g9', g3, a1]
