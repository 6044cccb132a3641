/-! when no message of the change is under way -/
theorem ch0 {s : ST} (h : chM s = 0) : (c_ms s).filter isLk = [] ∧ tkL s = [] ∧ ∀ g, g ∈ c_ms s → g_as g ≠ none := by
  have e := chM_eq s
  refine ⟨List.length_eq_zero_iff.mp (by omega), List.length_eq_zero_iff.mp (by omega), fun g hg z => ?_⟩
  have a : ((c_ms s).filter fun g => (g_as g).isNone) = [] := List.length_eq_zero_iff.mp h
  have : g ∈ (c_ms s).filter fun g => (g_as g).isNone := List.mem_filter.mpr ⟨hg, by rw [z]; rfl⟩
  rw [a] at this
  cases this
theorem st_seeks {t : Nat} {s : ST} (hb : I_b s) (hp : I_p s) (hq : I_q t s) (a1 : c_ck s = 3) (a2 : c_cu s = false) (a3 : c_be s (c_cp s) = 2) (hN : netC s 1 true) (hU : netU (vw s) (c_hs s) (c_kl s) 1 (c_cp s)) (hT : tkL s = []) :
    I_b (seeks s (c_cp s) 0) ∧ I_p (seeks s (c_cp s) 0) ∧ I_q t (seeks s (c_cp s) 0) ∧ ph2 (seeks s (c_cp s) 0) 1 := by
  have hK := hb.2.2.1
  have u0 := hU.1 0 (by decide) 0 (by decide)
  have u1 := hU.1 0 (by decide) 1 (by decide)
  have to : ∀ g, g ∈ skL 0 (c_kl s (c_cp s) 0 0) (c_kl s (c_cp s) 0 1) → g_to g < c_n s ∧ g_as g = none := fun g hg => by
    obtain ⟨-, -, x3, x4⟩ := skL_m hg
    rcases x4 with y | y
    · exact ⟨nu_lt u0 y, x3⟩
    · exact ⟨nu_lt u1 y, x3⟩
  have g0 : growO (vw s) (c_cp s) 1 (skL 0 (c_kl s (c_cp s) 0 0) (c_kl s (c_cp s) 0 1)) := grow_sk (by decide) u0 u1
  have xT : ∀ g, g ∈ skL 0 (c_kl s (c_cp s) 0 0) (c_kl s (c_cp s) 0 1) → isTk g = true := fun g hg => (skL_m hg).1
  have xL : ∀ g, g ∈ skL 0 (c_kl s (c_cp s) 0 0) (c_kl s (c_cp s) 0 1) → isLk g = false := fun g hg => (skL_m hg).2.1
  rw [seeks_eq, lnk_kl hK, lnk_kl hK]
  generalize skL 0 (c_kl s (c_cp s) 0 0) (c_kl s (c_cp s) 0 1) = X at *
  have e : tkL (c_ms_ s (c_ms s ++ X)) = X := by
    show (c_ms s ++ X).filter isTk = X
    have e1 : (c_ms s).filter isTk = [] := hT
    rw [List.filter_append, e1, List.nil_append]
    exact List.filter_eq_self.mpr xT
  refine ⟨ib_cg rfl rfl rfl rfl hb, ip_cg rfl rfl rfl rfl hp, iq_ap hq to, Or.inr a1, a2, a3, Nat.le_refl _, by decide, ⟨hN.1, hN.2.1, na_ap hN.2.2 xL⟩, hU, ?_⟩
  rw [e]
  exact g0
def drS (s : ST) : ST := c_bt_ (c_cu_ s false) (up1 (c_bt s) (c_cp s) (c_cb s))
theorem drS_f (s : ST) : c_ck (drS s) = c_ck s ∧ c_cu (drS s) = false ∧ c_cp (drS s) = c_cp s ∧ c_bg (drS s) = c_bg s ∧ vw (drS s) = (c_n s, c_nm s, up1 (c_bt s) (c_cp s) (c_cb s), c_be s) ∧ c_ms (drS s) = c_ms s ∧ c_ol (drS s) = c_ol s ∧ c_pr (drS s) = c_pr s ∧ c_ev (drS s) = c_ev s ∧ c_na (drS s) = c_na s ∧ c_ak (drS s) = c_ak s ∧ c_hs (drS s) = c_hs s ∧ c_kl (drS s) = c_kl s ∧ c_n (drS s) = c_n s ∧ c_be (drS s) = c_be s := by
  simp only [drS, vw, C_n_n, C_n_nm, C_n_bt, C_n_be, C_n_ld, C_n_hs, C_n_kl, C_n_ol, C_n_pr, C_n_dr, C_n_ev, C_n_na, C_n_ak, C_n_ms, C_n_ck, C_n_cp, C_n_cu, C_n_cb, C_n_bg, C_nm_n, C_nm_nm, C_nm_bt, C_nm_be, C_nm_ld, C_nm_hs, C_nm_kl, C_nm_ol, C_nm_pr, C_nm_dr, C_nm_ev, C_nm_na, C_nm_ak, C_nm_ms, C_nm_ck, C_nm_cp, C_nm_cu, C_nm_cb, C_nm_bg, C_bt_n, C_bt_nm, C_bt_bt, C_bt_be, C_bt_ld, C_bt_hs, C_bt_kl, C_bt_ol, C_bt_pr, C_bt_dr, C_bt_ev, C_bt_na, C_bt_ak, C_bt_ms, C_bt_ck, C_bt_cp, C_bt_cu, C_bt_cb, C_bt_bg, C_be_n, C_be_nm, C_be_bt, C_be_be, C_be_ld, C_be_hs, C_be_kl, C_be_ol, C_be_pr, C_be_dr, C_be_ev, C_be_na, C_be_ak, C_be_ms, C_be_ck, C_be_cp, C_be_cu, C_be_cb, C_be_bg, C_ld_n, C_ld_nm, C_ld_bt, C_ld_be, C_ld_ld, C_ld_hs, C_ld_kl, C_ld_ol, C_ld_pr, C_ld_dr, C_ld_ev, C_ld_na, C_ld_ak, C_ld_ms, C_ld_ck, C_ld_cp, C_ld_cu, C_ld_cb, C_ld_bg, C_hs_n, C_hs_nm, C_hs_bt, C_hs_be, C_hs_ld, C_hs_hs, C_hs_kl, C_hs_ol, C_hs_pr, C_hs_dr, C_hs_ev, C_hs_na, C_hs_ak, C_hs_ms, C_hs_ck, C_hs_cp, C_hs_cu, C_hs_cb, C_hs_bg, C_kl_n, C_kl_nm, C_kl_bt, C_kl_be, C_kl_ld, C_kl_hs, C_kl_kl, C_kl_ol, C_kl_pr, C_kl_dr, C_kl_ev, C_kl_na, C_kl_ak, C_kl_ms, C_kl_ck, C_kl_cp, C_kl_cu, C_kl_cb, C_kl_bg, C_ol_n, C_ol_nm, C_ol_bt, C_ol_be, C_ol_ld, C_ol_hs, C_ol_kl, C_ol_ol, C_ol_pr, C_ol_dr, C_ol_ev, C_ol_na, C_ol_ak, C_ol_ms, C_ol_ck, C_ol_cp, C_ol_cu, C_ol_cb, C_ol_bg, C_pr_n, C_pr_nm, C_pr_bt, C_pr_be, C_pr_ld, C_pr_hs, C_pr_kl, C_pr_ol, C_pr_pr, C_pr_dr, C_pr_ev, C_pr_na, C_pr_ak, C_pr_ms, C_pr_ck, C_pr_cp, C_pr_cu, C_pr_cb, C_pr_bg, C_dr_n, C_dr_nm, C_dr_bt, C_dr_be, C_dr_ld, C_dr_hs, C_dr_kl, C_dr_ol, C_dr_pr, C_dr_dr, C_dr_ev, C_dr_na, C_dr_ak, C_dr_ms, C_dr_ck, C_dr_cp, C_dr_cu, C_dr_cb, C_dr_bg, C_ev_n, C_ev_nm, C_ev_bt, C_ev_be, C_ev_ld, C_ev_hs, C_ev_kl, C_ev_ol, C_ev_pr, C_ev_dr, C_ev_ev, C_ev_na, C_ev_ak, C_ev_ms, C_ev_ck, C_ev_cp, C_ev_cu, C_ev_cb, C_ev_bg, C_na_n, C_na_nm, C_na_bt, C_na_be, C_na_ld, C_na_hs, C_na_kl, C_na_ol, C_na_pr, C_na_dr, C_na_ev, C_na_na, C_na_ak, C_na_ms, C_na_ck, C_na_cp, C_na_cu, C_na_cb, C_na_bg, C_ak_n, C_ak_nm, C_ak_bt, C_ak_be, C_ak_ld, C_ak_hs, C_ak_kl, C_ak_ol, C_ak_pr, C_ak_dr, C_ak_ev, C_ak_na, C_ak_ak, C_ak_ms, C_ak_ck, C_ak_cp, C_ak_cu, C_ak_cb, C_ak_bg, C_ms_n, C_ms_nm, C_ms_bt, C_ms_be, C_ms_ld, C_ms_hs, C_ms_kl, C_ms_ol, C_ms_pr, C_ms_dr, C_ms_ev, C_ms_na, C_ms_ak, C_ms_ms, C_ms_ck, C_ms_cp, C_ms_cu, C_ms_cb, C_ms_bg, C_ck_n, C_ck_nm, C_ck_bt, C_ck_be, C_ck_ld, C_ck_hs, C_ck_kl, C_ck_ol, C_ck_pr, C_ck_dr, C_ck_ev, C_ck_na, C_ck_ak, C_ck_ms, C_ck_ck, C_ck_cp, C_ck_cu, C_ck_cb, C_ck_bg, C_cp_n, C_cp_nm, C_cp_bt, C_cp_be, C_cp_ld, C_cp_hs, C_cp_kl, C_cp_ol, C_cp_pr, C_cp_dr, C_cp_ev, C_cp_na, C_cp_ak, C_cp_ms, C_cp_ck, C_cp_cp, C_cp_cu, C_cp_cb, C_cp_bg, C_cu_n, C_cu_nm, C_cu_bt, C_cu_be, C_cu_ld, C_cu_hs, C_cu_kl, C_cu_ol, C_cu_pr, C_cu_dr, C_cu_ev, C_cu_na, C_cu_ak, C_cu_ms, C_cu_ck, C_cu_cp, C_cu_cu, C_cu_cb, C_cu_bg, C_cb_n, C_cb_nm, C_cb_bt, C_cb_be, C_cb_ld, C_cb_hs, C_cb_kl, C_cb_ol, C_cb_pr, C_cb_dr, C_cb_ev, C_cb_na, C_cb_ak, C_cb_ms, C_cb_ck, C_cb_cp, C_cb_cu, C_cb_cb, C_cb_bg, C_bg_n, C_bg_nm, C_bg_bt, C_bg_be, C_bg_ld, C_bg_hs, C_bg_kl, C_bg_ol, C_bg_pr, C_bg_dr, C_bg_ev, C_bg_na, C_bg_ak, C_bg_ms, C_bg_ck, C_bg_cp, C_bg_cu, C_bg_cb, C_bg_bg, and_self]
theorem st_dr {t : Nat} {s : ST} (hb : I_b s) (hp : I_p s) (hq : I_q t s) (hc : ph3 s) (h0 : chM s = 0) :
    I_b (seeks (drS s) (c_cp s) 0) ∧ I_p (seeks (drS s) (c_cp s) 0) ∧ I_q t (seeks (drS s) (c_cp s) 0) ∧ ph2 (seeks (drS s) (c_cp s) 0) 1 := by
  obtain ⟨t1, t2, t3, t4, t5, t6, t7, t8, t9, t10, t11, t12, t13, t14, t15⟩ := drS_f s
  generalize drS s = s1 at *
  obtain ⟨z1, z2, z3⟩ := ch0 h0
  obtain ⟨a1, a2, a3, ⟨a4, a5, a6⟩, a7, a8⟩ := hc
  have hb1 : I_b s1 := by
    refine ⟨by rw [t14]; exact hb.1, by rw [t5]; exact hb.2.1, by rw [t12, t13]; exact hb.2.2.1, ?_⟩
    unfold CLs
    rw [t14, t7, t13]
    exact hb.2.2.2
  have hq1 : I_q t s1 := by
    unfold I_q at *
    rw [t10, t11, t9, t14, t6]
    exact hq
  have hN : netC s1 1 true := by
    unfold netC
    rw [t3, t14, t15, t5, t13, t6]
    exact ⟨a4, a5, na_bits (fun q e => up1_n _ _ e) a6 z1⟩
  have hU : netU (vw s1) (c_hs s1) (c_kl s1) 1 (c_cp s1) := by
    rw [t12, t13, t3, t5]
    refine ⟨fun l hl d hd => ?_, a7.2⟩
    have e : l = 0 := by omega
    rw [e]
    exact nu_bits (a7.1 0 (by decide) d hd)
  have hT : tkL s1 = [] := by
    unfold tkL
    rw [t6]
    exact z2
  have r := st_seeks hb1 (ip_cg t14 t8 t4 t9 hp) hq1 (t1.trans a1) t2 (by rw [t15, t3]; exact a3) hN hU hT
  rw [t3] at r
  exact r
