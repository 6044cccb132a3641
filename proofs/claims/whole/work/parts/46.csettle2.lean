/-! the class: settleChange, handOver -/
theorem sndo_L (s : ST) (so : Nat) (to lv : Option Nat) (sd : Nat) (lf rg : Option Nat) : ∃ L, L.length ≤ 1 ∧ sndo s so to lv sd lf rg = c_ms_ s (c_ms s ++ L) := by
  cases to with
  | none => exact ⟨[], Nat.zero_le _, by rw [List.append_nil]; rfl⟩
  | some p => exact ⟨[_], Nat.le_refl _, rfl⟩
theorem seeks_L (s : ST) (u l : Nat) : ∃ L, L.length ≤ 1 ∧ seeks s u l = c_ms_ s (c_ms s ++ L) := by
  unfold seeks
  by_cases h : l < 8
  · rw [if_pos h]
    cases lnk s u l 1 with
    | some b => exact ⟨[_], Nat.le_refl _, rfl⟩
    | none => exact sndo_L _ _ _ _ _ _ _
  · rw [if_neg h]
    exact ⟨[], Nat.zero_le _, by rw [List.append_nil]; rfl⟩
def looks2 (s : ST) : ST := if 0 < c_ck s ∧ chM s = 0 then
    c_bg_ (c_ck_ (if c_ck s = 2 then nop (c_be_ (c_ol_ s (fun j d => if j = c_cp s then lnk s j 0 d else c_ol s j d)) (up1 (c_be s) (c_cp s) 0)) (c_cp s) 0 else s) 0) []
  else s
def looks1 (s : ST) : ST := if c_ck s = 3 ∧ c_cu s = true ∧ chM s = 0 then seeks (c_bt_ (c_cu_ s false) (up1 (c_bt s) (c_cp s) (c_cb s))) (c_cp s) 0 else s
theorem looks_eq (s : ST) : looks s = looks2 (looks1 s) := rfl
theorem chM_le {s : ST} {m : MM} (h : RC s m) : chM s ≤ 192 := Nat.le_trans (List.length_filter_le _ _) h.2.2.2.2.1.2.2.2.2.1
theorem go_settle2 {s : ST} {m : MM} (h : RC s m) (hk : 0 < c_ck s) (hu : c_cp s < c_n s) (hcu : c_cu s = false) :
    ∃ m', go 51 78 [some (vr 7 (some 0))] [] m = some (none, m') ∧ RC (looks2 s) m' ∧ fK m m' := by
  have k1 := h.2.2.2.2.1.1
  have k2 := h.2.2.2.2.1.2.2.2.2.2.1
  obtain ⟨c1, c2, c3, c4, c5, c6, c7⟩ := h.2.1
  have hch := chM_le h
  unfold looks2
  by_cases h0 : chM s = 0
  · rw [if_pos ⟨hk, h0⟩]
    have e0 : nI (chM s) ≤ 0 := by rw [h0]; decide
    by_cases h2 : c_ck s = 2
    · rw [if_pos h2]
      obtain ⟨m1, a1, a2, a3⟩ := go_goOut h.1 hu
      have R1 := RC_P h a2 a3 QE_P (by simp only [SEr, nop, plc, c_n_n, c_n_nm, c_n_bt, c_n_be, c_n_ld, c_n_hs, c_n_kl, c_n_ol, c_n_pr, c_n_dr, c_n_ev, c_n_na, c_n_ak, c_n_ms, c_n_ck, c_n_cp, c_n_cu, c_n_cb, c_n_bg, c_nm_n, c_nm_nm, c_nm_bt, c_nm_be, c_nm_ld, c_nm_hs, c_nm_kl, c_nm_ol, c_nm_pr, c_nm_dr, c_nm_ev, c_nm_na, c_nm_ak, c_nm_ms, c_nm_ck, c_nm_cp, c_nm_cu, c_nm_cb, c_nm_bg, c_bt_n, c_bt_nm, c_bt_bt, c_bt_be, c_bt_ld, c_bt_hs, c_bt_kl, c_bt_ol, c_bt_pr, c_bt_dr, c_bt_ev, c_bt_na, c_bt_ak, c_bt_ms, c_bt_ck, c_bt_cp, c_bt_cu, c_bt_cb, c_bt_bg, c_be_n, c_be_nm, c_be_bt, c_be_be, c_be_ld, c_be_hs, c_be_kl, c_be_ol, c_be_pr, c_be_dr, c_be_ev, c_be_na, c_be_ak, c_be_ms, c_be_ck, c_be_cp, c_be_cu, c_be_cb, c_be_bg, c_ld_n, c_ld_nm, c_ld_bt, c_ld_be, c_ld_ld, c_ld_hs, c_ld_kl, c_ld_ol, c_ld_pr, c_ld_dr, c_ld_ev, c_ld_na, c_ld_ak, c_ld_ms, c_ld_ck, c_ld_cp, c_ld_cu, c_ld_cb, c_ld_bg, c_hs_n, c_hs_nm, c_hs_bt, c_hs_be, c_hs_ld, c_hs_hs, c_hs_kl, c_hs_ol, c_hs_pr, c_hs_dr, c_hs_ev, c_hs_na, c_hs_ak, c_hs_ms, c_hs_ck, c_hs_cp, c_hs_cu, c_hs_cb, c_hs_bg, c_kl_n, c_kl_nm, c_kl_bt, c_kl_be, c_kl_ld, c_kl_hs, c_kl_kl, c_kl_ol, c_kl_pr, c_kl_dr, c_kl_ev, c_kl_na, c_kl_ak, c_kl_ms, c_kl_ck, c_kl_cp, c_kl_cu, c_kl_cb, c_kl_bg, c_ol_n, c_ol_nm, c_ol_bt, c_ol_be, c_ol_ld, c_ol_hs, c_ol_kl, c_ol_ol, c_ol_pr, c_ol_dr, c_ol_ev, c_ol_na, c_ol_ak, c_ol_ms, c_ol_ck, c_ol_cp, c_ol_cu, c_ol_cb, c_ol_bg, c_pr_n, c_pr_nm, c_pr_bt, c_pr_be, c_pr_ld, c_pr_hs, c_pr_kl, c_pr_ol, c_pr_pr, c_pr_dr, c_pr_ev, c_pr_na, c_pr_ak, c_pr_ms, c_pr_ck, c_pr_cp, c_pr_cu, c_pr_cb, c_pr_bg, c_dr_n, c_dr_nm, c_dr_bt, c_dr_be, c_dr_ld, c_dr_hs, c_dr_kl, c_dr_ol, c_dr_pr, c_dr_dr, c_dr_ev, c_dr_na, c_dr_ak, c_dr_ms, c_dr_ck, c_dr_cp, c_dr_cu, c_dr_cb, c_dr_bg, c_ev_n, c_ev_nm, c_ev_bt, c_ev_be, c_ev_ld, c_ev_hs, c_ev_kl, c_ev_ol, c_ev_pr, c_ev_dr, c_ev_ev, c_ev_na, c_ev_ak, c_ev_ms, c_ev_ck, c_ev_cp, c_ev_cu, c_ev_cb, c_ev_bg, c_na_n, c_na_nm, c_na_bt, c_na_be, c_na_ld, c_na_hs, c_na_kl, c_na_ol, c_na_pr, c_na_dr, c_na_ev, c_na_na, c_na_ak, c_na_ms, c_na_ck, c_na_cp, c_na_cu, c_na_cb, c_na_bg, c_ak_n, c_ak_nm, c_ak_bt, c_ak_be, c_ak_ld, c_ak_hs, c_ak_kl, c_ak_ol, c_ak_pr, c_ak_dr, c_ak_ev, c_ak_na, c_ak_ak, c_ak_ms, c_ak_ck, c_ak_cp, c_ak_cu, c_ak_cb, c_ak_bg, c_ms_n, c_ms_nm, c_ms_bt, c_ms_be, c_ms_ld, c_ms_hs, c_ms_kl, c_ms_ol, c_ms_pr, c_ms_dr, c_ms_ev, c_ms_na, c_ms_ak, c_ms_ms, c_ms_ck, c_ms_cp, c_ms_cu, c_ms_cb, c_ms_bg, c_ck_n, c_ck_nm, c_ck_bt, c_ck_be, c_ck_ld, c_ck_hs, c_ck_kl, c_ck_ol, c_ck_pr, c_ck_dr, c_ck_ev, c_ck_na, c_ck_ak, c_ck_ms, c_ck_ck, c_ck_cp, c_ck_cu, c_ck_cb, c_ck_bg, c_cp_n, c_cp_nm, c_cp_bt, c_cp_be, c_cp_ld, c_cp_hs, c_cp_kl, c_cp_ol, c_cp_pr, c_cp_dr, c_cp_ev, c_cp_na, c_cp_ak, c_cp_ms, c_cp_ck, c_cp_cp, c_cp_cu, c_cp_cb, c_cp_bg, c_cu_n, c_cu_nm, c_cu_bt, c_cu_be, c_cu_ld, c_cu_hs, c_cu_kl, c_cu_ol, c_cu_pr, c_cu_dr, c_cu_ev, c_cu_na, c_cu_ak, c_cu_ms, c_cu_ck, c_cu_cp, c_cu_cu, c_cu_cb, c_cu_bg, c_cb_n, c_cb_nm, c_cb_bt, c_cb_be, c_cb_ld, c_cb_hs, c_cb_kl, c_cb_ol, c_cb_pr, c_cb_dr, c_cb_ev, c_cb_na, c_cb_ak, c_cb_ms, c_cb_ck, c_cb_cp, c_cb_cu, c_cb_cb, c_cb_bg, c_bg_n, c_bg_nm, c_bg_bt, c_bg_be, c_bg_ld, c_bg_hs, c_bg_kl, c_bg_ol, c_bg_pr, c_bg_dr, c_bg_ev, c_bg_na, c_bg_ak, c_bg_ms, c_bg_ck, c_bg_cp, c_bg_cu, c_bg_cb, c_bg_bg, and_self])
      have R2 := bg_off R1 hcu
      refine ⟨_, ?_, R2, fK_tr (fK_fr a3 QE_K) (fK_fr (bgM_fr _ _ _) QC_K)⟩
      have b1 := go_begin (k := 0) (t := 0) (o := none) R1.2.1.2.2.2.2.2.2 (Or.inl rfl)
      have b1 : go 7 0 [some (vr 2 (some 0)), some (vi 0), some (vr 0 none)] [] m1 = some (none, bgM m1 0 none) := b1
      have c1' := R1.2.1.1
      rw [if_neg (by omega)] at c4
      have x2 : nI (c_ck s) = 2 := by rw [h2]; rfl
      simp [s51_0, s51_1, s51_4, s51_7, s51_10, s51_11, s51_14, s51_17n, s51_17s, s51_20, s51_21, s51_24, s51_27, s51_30, s51_31, s51_32, s51_35, s51_38, s51_41, s51_42, s51_45, s51_46b0, s51_46b1, s51_49, s51_50, s51_53, s51_56, s51_57, s51_60, s51_63, s51_66, s51_67, s51_68, s51_71, s51_74, s51_75, s51_78, s51_79, s51_82, s51_85, s51_88, s51_89, s51_90, s51_93, s51_96, s51_97, s51_100, s51_101, s51_104, s51_107, s51_110, s51_111, s51_114, s51_115, s51_116, s51_119, eq_self, ixk_some, bd_some, nl_n, nl_i, nl_r, Option.toList_some, Option.toList_none, List.cons_append, List.nil_append, k1, k2, e0, c1, c2, c4, x2, a1, b1, c1']
    · rw [if_neg h2]
      have R2 := bg_off h hcu
      refine ⟨_, ?_, R2, fK_fr (bgM_fr _ _ _) QC_K⟩
      have b1 := go_begin (m := m) (k := 0) (t := 0) (o := none) c7 (Or.inl rfl)
      have b1 : go 7 0 [some (vr 2 (some 0)), some (vi 0), some (vr 0 none)] [] m = some (none, bgM m 0 none) := b1
      have x2 : ¬ nI (c_ck s) = 2 := be_ne2 c3 h2
      simp [s51_0, s51_1, s51_4, s51_7, s51_10, s51_11, s51_14, s51_17n, s51_17s, s51_20, s51_21, s51_24, s51_27, s51_30, s51_31, s51_32, s51_35, s51_38, s51_41, s51_42, s51_45, s51_46b0, s51_46b1, s51_49, s51_50, s51_53, s51_56, s51_57, s51_60, s51_63, s51_66, s51_67, s51_68, s51_71, s51_74, s51_75, s51_78, s51_79, s51_82, s51_85, s51_88, s51_89, s51_90, s51_93, s51_96, s51_97, s51_100, s51_101, s51_104, s51_107, s51_110, s51_111, s51_114, s51_115, s51_116, s51_119, eq_self, ixk_some, bd_some, nl_n, nl_i, nl_r, Option.toList_some, Option.toList_none, List.cons_append, List.nil_append, k1, k2, e0, c1, c2, x2, b1]
  · rw [if_neg (fun z => h0 z.2)]
    refine ⟨m, ?_, h, fK_rf m⟩
    have e0 : ¬ nI (chM s) ≤ 0 := nI_ge (show 0 < chM s by omega) (by omega)
    simp only [s51_78, s51_79, s51_82, s51_85, s51_88, eq_self, ixk_some, bd_some, nl_n, nl_i, nl_r, Option.toList_some, Option.toList_none, List.cons_append, List.nil_append, k1, k2, if_neg e0]
theorem go_settle {s : ST} {m : MM} (h : RC s m) (hu : 0 < c_ck s → c_cp s < c_n s) (hcu : c_cu s = true → c_ck s = 3) (hc : (c_ms s).length < 192) :
    ∃ m', go 51 0 [some (vr 7 (some 0))] [] m = some (none, m') ∧ RC (looks s) m' ∧ fK m m' := by
  have k1 := h.2.2.2.2.1.1
  have k2 := h.2.2.2.2.1.2.2.2.2.2.1
  obtain ⟨c1, c2, c3, c4, c5, c6, c7⟩ := h.2.1
  have hch := chM_le h
  have a0 := go_isOn h.2.1
  rw [looks_eq]
  unfold looks1
  by_cases hk : 0 < c_ck s
  · rw [show decide (0 < c_ck s) = true from decide_eq_true hk, b2_t] at a0
    rw [if_neg (by omega)] at c4
    by_cases h0 : chM s = 0
    · have e0 : nI (chM s) ≤ 0 := by rw [h0]; decide
      cases hq : c_cu s
      · rw [if_neg (fun z => by cases z.2.1)]
        obtain ⟨m', b1, b2, b3⟩ := go_settle2 h hk (hu hk) hq
        refine ⟨m', ?_, b2, b3⟩
        rw [hq, b2_f] at c5
        rw [← b1]
        simp [s51_0, s51_1, s51_4, s51_7, s51_10, s51_11, s51_14, s51_17n, s51_17s, s51_20, s51_21, s51_24, s51_27, s51_30, s51_31, s51_32, s51_35, s51_38, eq_self, ixk_some, bd_some, nl_n, nl_i, nl_r, Option.toList_some, Option.toList_none, List.cons_append, List.nil_append, k1, k2, e0, c1, c4, c5, a0]
      · have h3 := hcu hq
        rw [if_pos ⟨h3, rfl, h0⟩]
        have R1 : RC (c_cu_ s false) (sI m 2 0 2 0) := by
          refine RC_C (Q := fun r _ => r = 2) h ⟨c1, c2, c3, ?_, rfl, c6, c7⟩ (RCq_fr (Q := fun r _ => r = 2) h.2.2.2.2.2.1 (fr_sI m _ rfl) (fun r n z => by omega)) (fr_sI m _ rfl) (fun r n z => Or.inl z) (by simp only [SEc, nop, plc, c_n_n, c_n_nm, c_n_bt, c_n_be, c_n_ld, c_n_hs, c_n_kl, c_n_ol, c_n_pr, c_n_dr, c_n_ev, c_n_na, c_n_ak, c_n_ms, c_n_ck, c_n_cp, c_n_cu, c_n_cb, c_n_bg, c_nm_n, c_nm_nm, c_nm_bt, c_nm_be, c_nm_ld, c_nm_hs, c_nm_kl, c_nm_ol, c_nm_pr, c_nm_dr, c_nm_ev, c_nm_na, c_nm_ak, c_nm_ms, c_nm_ck, c_nm_cp, c_nm_cu, c_nm_cb, c_nm_bg, c_bt_n, c_bt_nm, c_bt_bt, c_bt_be, c_bt_ld, c_bt_hs, c_bt_kl, c_bt_ol, c_bt_pr, c_bt_dr, c_bt_ev, c_bt_na, c_bt_ak, c_bt_ms, c_bt_ck, c_bt_cp, c_bt_cu, c_bt_cb, c_bt_bg, c_be_n, c_be_nm, c_be_bt, c_be_be, c_be_ld, c_be_hs, c_be_kl, c_be_ol, c_be_pr, c_be_dr, c_be_ev, c_be_na, c_be_ak, c_be_ms, c_be_ck, c_be_cp, c_be_cu, c_be_cb, c_be_bg, c_ld_n, c_ld_nm, c_ld_bt, c_ld_be, c_ld_ld, c_ld_hs, c_ld_kl, c_ld_ol, c_ld_pr, c_ld_dr, c_ld_ev, c_ld_na, c_ld_ak, c_ld_ms, c_ld_ck, c_ld_cp, c_ld_cu, c_ld_cb, c_ld_bg, c_hs_n, c_hs_nm, c_hs_bt, c_hs_be, c_hs_ld, c_hs_hs, c_hs_kl, c_hs_ol, c_hs_pr, c_hs_dr, c_hs_ev, c_hs_na, c_hs_ak, c_hs_ms, c_hs_ck, c_hs_cp, c_hs_cu, c_hs_cb, c_hs_bg, c_kl_n, c_kl_nm, c_kl_bt, c_kl_be, c_kl_ld, c_kl_hs, c_kl_kl, c_kl_ol, c_kl_pr, c_kl_dr, c_kl_ev, c_kl_na, c_kl_ak, c_kl_ms, c_kl_ck, c_kl_cp, c_kl_cu, c_kl_cb, c_kl_bg, c_ol_n, c_ol_nm, c_ol_bt, c_ol_be, c_ol_ld, c_ol_hs, c_ol_kl, c_ol_ol, c_ol_pr, c_ol_dr, c_ol_ev, c_ol_na, c_ol_ak, c_ol_ms, c_ol_ck, c_ol_cp, c_ol_cu, c_ol_cb, c_ol_bg, c_pr_n, c_pr_nm, c_pr_bt, c_pr_be, c_pr_ld, c_pr_hs, c_pr_kl, c_pr_ol, c_pr_pr, c_pr_dr, c_pr_ev, c_pr_na, c_pr_ak, c_pr_ms, c_pr_ck, c_pr_cp, c_pr_cu, c_pr_cb, c_pr_bg, c_dr_n, c_dr_nm, c_dr_bt, c_dr_be, c_dr_ld, c_dr_hs, c_dr_kl, c_dr_ol, c_dr_pr, c_dr_dr, c_dr_ev, c_dr_na, c_dr_ak, c_dr_ms, c_dr_ck, c_dr_cp, c_dr_cu, c_dr_cb, c_dr_bg, c_ev_n, c_ev_nm, c_ev_bt, c_ev_be, c_ev_ld, c_ev_hs, c_ev_kl, c_ev_ol, c_ev_pr, c_ev_dr, c_ev_ev, c_ev_na, c_ev_ak, c_ev_ms, c_ev_ck, c_ev_cp, c_ev_cu, c_ev_cb, c_ev_bg, c_na_n, c_na_nm, c_na_bt, c_na_be, c_na_ld, c_na_hs, c_na_kl, c_na_ol, c_na_pr, c_na_dr, c_na_ev, c_na_na, c_na_ak, c_na_ms, c_na_ck, c_na_cp, c_na_cu, c_na_cb, c_na_bg, c_ak_n, c_ak_nm, c_ak_bt, c_ak_be, c_ak_ld, c_ak_hs, c_ak_kl, c_ak_ol, c_ak_pr, c_ak_dr, c_ak_ev, c_ak_na, c_ak_ak, c_ak_ms, c_ak_ck, c_ak_cp, c_ak_cu, c_ak_cb, c_ak_bg, c_ms_n, c_ms_nm, c_ms_bt, c_ms_be, c_ms_ld, c_ms_hs, c_ms_kl, c_ms_ol, c_ms_pr, c_ms_dr, c_ms_ev, c_ms_na, c_ms_ak, c_ms_ms, c_ms_ck, c_ms_cp, c_ms_cu, c_ms_cb, c_ms_bg, c_ck_n, c_ck_nm, c_ck_bt, c_ck_be, c_ck_ld, c_ck_hs, c_ck_kl, c_ck_ol, c_ck_pr, c_ck_dr, c_ck_ev, c_ck_na, c_ck_ak, c_ck_ms, c_ck_ck, c_ck_cp, c_ck_cu, c_ck_cb, c_ck_bg, c_cp_n, c_cp_nm, c_cp_bt, c_cp_be, c_cp_ld, c_cp_hs, c_cp_kl, c_cp_ol, c_cp_pr, c_cp_dr, c_cp_ev, c_cp_na, c_cp_ak, c_cp_ms, c_cp_ck, c_cp_cp, c_cp_cu, c_cp_cb, c_cp_bg, c_cu_n, c_cu_nm, c_cu_bt, c_cu_be, c_cu_ld, c_cu_hs, c_cu_kl, c_cu_ol, c_cu_pr, c_cu_dr, c_cu_ev, c_cu_na, c_cu_ak, c_cu_ms, c_cu_ck, c_cu_cp, c_cu_cu, c_cu_cb, c_cu_bg, c_cb_n, c_cb_nm, c_cb_bt, c_cb_be, c_cb_ld, c_cb_hs, c_cb_kl, c_cb_ol, c_cb_pr, c_cb_dr, c_cb_ev, c_cb_na, c_cb_ak, c_cb_ms, c_cb_ck, c_cb_cp, c_cb_cu, c_cb_cb, c_cb_bg, c_bg_n, c_bg_nm, c_bg_bt, c_bg_be, c_bg_ld, c_bg_hs, c_bg_kl, c_bg_ol, c_bg_pr, c_bg_dr, c_bg_ev, c_bg_na, c_bg_ak, c_bg_ms, c_bg_ck, c_bg_cp, c_bg_cu, c_bg_cb, c_bg_bg, and_self])
          show mR m 2 0 1 = if c_ck s = 0 then none else some (c_cp s)
          rw [if_neg (by omega)]
          exact c4
        have R2 : RC (c_bt_ (c_cu_ s false) (up1 (c_bt s) (c_cp s) (c_cb s))) (sI (sI m 2 0 2 0) 6 (c_cp s) 2 (c_cb s)) := RC_P (Q := QE (c_cp s)) R1 (RCp_bt R1.1) (fr_sI _ _ ⟨Or.inl rfl, rfl⟩) QE_P (by simp only [SEr, nop, plc, c_n_n, c_n_nm, c_n_bt, c_n_be, c_n_ld, c_n_hs, c_n_kl, c_n_ol, c_n_pr, c_n_dr, c_n_ev, c_n_na, c_n_ak, c_n_ms, c_n_ck, c_n_cp, c_n_cu, c_n_cb, c_n_bg, c_nm_n, c_nm_nm, c_nm_bt, c_nm_be, c_nm_ld, c_nm_hs, c_nm_kl, c_nm_ol, c_nm_pr, c_nm_dr, c_nm_ev, c_nm_na, c_nm_ak, c_nm_ms, c_nm_ck, c_nm_cp, c_nm_cu, c_nm_cb, c_nm_bg, c_bt_n, c_bt_nm, c_bt_bt, c_bt_be, c_bt_ld, c_bt_hs, c_bt_kl, c_bt_ol, c_bt_pr, c_bt_dr, c_bt_ev, c_bt_na, c_bt_ak, c_bt_ms, c_bt_ck, c_bt_cp, c_bt_cu, c_bt_cb, c_bt_bg, c_be_n, c_be_nm, c_be_bt, c_be_be, c_be_ld, c_be_hs, c_be_kl, c_be_ol, c_be_pr, c_be_dr, c_be_ev, c_be_na, c_be_ak, c_be_ms, c_be_ck, c_be_cp, c_be_cu, c_be_cb, c_be_bg, c_ld_n, c_ld_nm, c_ld_bt, c_ld_be, c_ld_ld, c_ld_hs, c_ld_kl, c_ld_ol, c_ld_pr, c_ld_dr, c_ld_ev, c_ld_na, c_ld_ak, c_ld_ms, c_ld_ck, c_ld_cp, c_ld_cu, c_ld_cb, c_ld_bg, c_hs_n, c_hs_nm, c_hs_bt, c_hs_be, c_hs_ld, c_hs_hs, c_hs_kl, c_hs_ol, c_hs_pr, c_hs_dr, c_hs_ev, c_hs_na, c_hs_ak, c_hs_ms, c_hs_ck, c_hs_cp, c_hs_cu, c_hs_cb, c_hs_bg, c_kl_n, c_kl_nm, c_kl_bt, c_kl_be, c_kl_ld, c_kl_hs, c_kl_kl, c_kl_ol, c_kl_pr, c_kl_dr, c_kl_ev, c_kl_na, c_kl_ak, c_kl_ms, c_kl_ck, c_kl_cp, c_kl_cu, c_kl_cb, c_kl_bg, c_ol_n, c_ol_nm, c_ol_bt, c_ol_be, c_ol_ld, c_ol_hs, c_ol_kl, c_ol_ol, c_ol_pr, c_ol_dr, c_ol_ev, c_ol_na, c_ol_ak, c_ol_ms, c_ol_ck, c_ol_cp, c_ol_cu, c_ol_cb, c_ol_bg, c_pr_n, c_pr_nm, c_pr_bt, c_pr_be, c_pr_ld, c_pr_hs, c_pr_kl, c_pr_ol, c_pr_pr, c_pr_dr, c_pr_ev, c_pr_na, c_pr_ak, c_pr_ms, c_pr_ck, c_pr_cp, c_pr_cu, c_pr_cb, c_pr_bg, c_dr_n, c_dr_nm, c_dr_bt, c_dr_be, c_dr_ld, c_dr_hs, c_dr_kl, c_dr_ol, c_dr_pr, c_dr_dr, c_dr_ev, c_dr_na, c_dr_ak, c_dr_ms, c_dr_ck, c_dr_cp, c_dr_cu, c_dr_cb, c_dr_bg, c_ev_n, c_ev_nm, c_ev_bt, c_ev_be, c_ev_ld, c_ev_hs, c_ev_kl, c_ev_ol, c_ev_pr, c_ev_dr, c_ev_ev, c_ev_na, c_ev_ak, c_ev_ms, c_ev_ck, c_ev_cp, c_ev_cu, c_ev_cb, c_ev_bg, c_na_n, c_na_nm, c_na_bt, c_na_be, c_na_ld, c_na_hs, c_na_kl, c_na_ol, c_na_pr, c_na_dr, c_na_ev, c_na_na, c_na_ak, c_na_ms, c_na_ck, c_na_cp, c_na_cu, c_na_cb, c_na_bg, c_ak_n, c_ak_nm, c_ak_bt, c_ak_be, c_ak_ld, c_ak_hs, c_ak_kl, c_ak_ol, c_ak_pr, c_ak_dr, c_ak_ev, c_ak_na, c_ak_ak, c_ak_ms, c_ak_ck, c_ak_cp, c_ak_cu, c_ak_cb, c_ak_bg, c_ms_n, c_ms_nm, c_ms_bt, c_ms_be, c_ms_ld, c_ms_hs, c_ms_kl, c_ms_ol, c_ms_pr, c_ms_dr, c_ms_ev, c_ms_na, c_ms_ak, c_ms_ms, c_ms_ck, c_ms_cp, c_ms_cu, c_ms_cb, c_ms_bg, c_ck_n, c_ck_nm, c_ck_bt, c_ck_be, c_ck_ld, c_ck_hs, c_ck_kl, c_ck_ol, c_ck_pr, c_ck_dr, c_ck_ev, c_ck_na, c_ck_ak, c_ck_ms, c_ck_ck, c_ck_cp, c_ck_cu, c_ck_cb, c_ck_bg, c_cp_n, c_cp_nm, c_cp_bt, c_cp_be, c_cp_ld, c_cp_hs, c_cp_kl, c_cp_ol, c_cp_pr, c_cp_dr, c_cp_ev, c_cp_na, c_cp_ak, c_cp_ms, c_cp_ck, c_cp_cp, c_cp_cu, c_cp_cb, c_cp_bg, c_cu_n, c_cu_nm, c_cu_bt, c_cu_be, c_cu_ld, c_cu_hs, c_cu_kl, c_cu_ol, c_cu_pr, c_cu_dr, c_cu_ev, c_cu_na, c_cu_ak, c_cu_ms, c_cu_ck, c_cu_cp, c_cu_cu, c_cu_cb, c_cu_bg, c_cb_n, c_cb_nm, c_cb_bt, c_cb_be, c_cb_ld, c_cb_hs, c_cb_kl, c_cb_ol, c_cb_pr, c_cb_dr, c_cb_ev, c_cb_na, c_cb_ak, c_cb_ms, c_cb_ck, c_cb_cp, c_cb_cu, c_cb_cb, c_cb_bg, c_bg_n, c_bg_nm, c_bg_bt, c_bg_be, c_bg_ld, c_bg_hs, c_bg_kl, c_bg_ol, c_bg_pr, c_bg_dr, c_bg_ev, c_bg_na, c_bg_ak, c_bg_ms, c_bg_ck, c_bg_cp, c_bg_cu, c_bg_cb, c_bg_bg, and_self])
        obtain ⟨m1, b1, b2, b3⟩ := go_firstSeek (l := 0) R2 (hu hk) (by decide) hc
        obtain ⟨L, hL1, hL2⟩ := seeks_L (c_bt_ (c_cu_ s false) (up1 (c_bt s) (c_cp s) (c_cb s))) (c_cp s) 0
        obtain ⟨m2, d1, d2, d3⟩ := go_settle2 b2 (by rw [hL2]; exact hk) (by rw [hL2]; exact hu hk) (by rw [hL2]; rfl)
        refine ⟨m2, ?_, d2, fK_tr (fK_fr (fr_sI (Q := QC) m _ (Or.inl rfl)) QC_K) (fK_tr (fK_fr (fr_sI (Q := QE (c_cp s)) _ _ ⟨Or.inl rfl, rfl⟩) QE_K) (fK_tr b3 d3))⟩
        have b1 : go 78 0 [some (vr 7 (some 0)), some (vr 6 (some (c_cp s))), some (vi 0), none] [] (sI (sI m 2 0 2 0) 6 (c_cp s) 2 (c_cb s)) = some (none, m1) := b1
        rw [hq, b2_t] at c5
        have c6 := c6 h3
        rw [← d1]
        simp [s51_0, s51_1, s51_4, s51_7, s51_10, s51_11, s51_14, s51_17n, s51_17s, s51_20, s51_21, s51_24, s51_27, s51_30, s51_31, s51_32, s51_35, s51_38, s51_41, s51_42, s51_45, s51_46b0, s51_46b1, s51_49, s51_50, s51_53, s51_56, s51_57, s51_60, s51_63, s51_66, s51_67, s51_68, s51_71, s51_74, s51_75, s51_79, s51_82, s51_85, s51_88, s51_89, s51_90, s51_93, s51_96, s51_97, s51_100, s51_101, s51_104, s51_107, s51_110, s51_111, s51_114, s51_115, s51_116, s51_119, eq_self, ixk_some, bd_some, nl_n, nl_i, nl_r, Option.toList_some, Option.toList_none, List.cons_append, List.nil_append, k1, k2, e0, c1, c4, c5, c6, a0, b1, mI_sI, mR_sI]
    · rw [if_neg (fun z => h0 z.2.2)]
      unfold looks2
      rw [if_neg (fun z => h0 z.2)]
      refine ⟨m, ?_, h, fK_rf m⟩
      have e0 : ¬ nI (chM s) ≤ 0 := nI_ge (show 0 < chM s by omega) (by omega)
      simp [s51_0, s51_1, s51_4, s51_7, s51_10, s51_11, s51_14, s51_17n, s51_17s, s51_20, s51_21, s51_24, s51_27, s51_30, s51_31, s51_32, s51_35, s51_38, s51_41, s51_42, s51_45, s51_46b0, s51_46b1, s51_49, s51_50, s51_53, s51_56, s51_57, s51_60, s51_63, s51_66, s51_67, s51_68, s51_71, s51_74, s51_75, s51_78, s51_79, s51_82, s51_85, s51_88, s51_89, s51_90, s51_93, s51_96, s51_97, s51_100, s51_101, s51_104, s51_107, s51_110, s51_111, s51_114, s51_115, s51_116, s51_119, eq_self, ixk_some, bd_some, nl_n, nl_i, nl_r, Option.toList_some, Option.toList_none, List.cons_append, List.nil_append, k1, k2, e0, c1, c4, a0]
  · rw [if_neg (fun z => by omega)]
    unfold looks2
    rw [if_neg (fun z => by omega)]
    refine ⟨m, ?_, h, fK_rf m⟩
    rw [show decide (0 < c_ck s) = false from decide_eq_false hk, b2_f] at a0
    simp [s51_0, s51_1, s51_4, s51_7, s51_10, s51_11, s51_14, s51_17n, s51_17s, s51_20, s51_21, s51_24, s51_27, s51_30, s51_31, s51_32, s51_35, s51_38, s51_41, s51_42, s51_45, s51_46b0, s51_46b1, s51_49, s51_50, s51_53, s51_56, s51_57, s51_60, s51_63, s51_66, s51_67, s51_68, s51_71, s51_74, s51_75, s51_78, s51_79, s51_82, s51_85, s51_88, s51_89, s51_90, s51_93, s51_96, s51_97, s51_100, s51_101, s51_104, s51_107, s51_110, s51_111, s51_114, s51_115, s51_116, s51_119, eq_self, ixk_some, bd_some, nl_n, nl_i, nl_r, Option.toList_some, Option.toList_none, List.cons_append, List.nil_append, c1, a0]
/-- pairs moved -/
theorem RC_mv {s s' : ST} {m m' : MM} {p q : Nat} (h : RC s m) (hp : RCq s' m') (hf : fr (fun r n => QP p r n ∨ QP q r n) m m') (e : SEc s s') (e2 : c_ck s' = c_ck s ∧ c_cp s' = c_cp s ∧ c_cu s' = c_cu s ∧ c_cb s' = c_cb s) : RC s' m' := by
  refine RC_C h ?_ hp hf (fun r n z => ?_) e
  · have := RCc_fr h.2.1 hf (fun r n z => by
      rcases z with z | z
      · have := z.1; omega
      · have := z.1; omega)
    unfold RCc at this ⊢
    rw [e2.1, e2.2.1, e2.2.2.1, e2.2.2.2]; exact this
  · rcases z with z | z
    · have := z.1; omega
    · have := z.1; omega
theorem QP_K {p q : Nat} : ∀ r n, (QP p r n ∨ QP q r n) → 1 ≤ r ∧ r ≤ 18 ∧ r ≠ 8 ∧ r ≠ 4 ∧ r ≠ 3 := fun r n z => by
  rcases z with z | z
  · have := z.1; omega
  · have := z.1; omega
/-- from peer i to the parcel -/
theorem RCq_mv1 {s : ST} {m m' : MM} {i : Nat} {A B : PRS} (h : RCq s m) (hi : i < c_n s) (h1 : RCl m' (i + 1) A) (h2 : RCl m' 0 B) (hf : fr (fun r n => QP (i + 1) r n ∨ QP 0 r n) m m') : RCq (c_bg_ (c_pr_ s (up1 (c_pr s) i A)) B) m' := by
  refine ⟨h2, fun j hj => ?_⟩
  have hj : j < c_n s := hj
  by_cases e : j = i
  · subst e
    have : c_pr (c_bg_ (c_pr_ s (up1 (c_pr s) j A)) B) j = A := if_pos rfl
    rw [this]; exact h1
  · have : c_pr (c_bg_ (c_pr_ s (up1 (c_pr s) i A)) B) j = c_pr s j := if_neg e
    rw [this]
    obtain ⟨⟨k1, k2, k3, k4, k5, k6⟩, k7⟩ := h.2 j hj
    have n : ∀ r, ¬ (QP (i + 1) r (j + 1) ∨ QP 0 r (j + 1)) := fun r z => by
      rcases z with z | z
      · have := z.2; omega
      · have := z.2; omega
    refine ⟨⟨by rw [(hf.1 5 (j + 1) 0 (n 5)).2.2]; exact k1, by rw [(hf.1 5 (j + 1) 1 (n 5)).2.2]; exact k2, by rw [(hf.1 5 (j + 1) 2 (n 5)).1]; exact k3, k4, by rw [hf.2.2.1]; exact k5, by rw [hf.2.2.1]; exact k6⟩, fun k x hx => ?_⟩
    rw [(hf.1 12 (j + 1) k (n 12)).1, (hf.1 13 (j + 1) k (n 13)).2.1]
    exact k7 k x hx
