/-! join, leave, again keep it -/
theorem isP_lt {s : ST} {u : Int32} (h : isP s u = true) : u.toInt.toNat < c_n s := by
  have := of_decide_eq_true h
  omega
theorem cnt_0 {P : Nat → Bool} : ∀ d i, cntF P d i = 0 → ∀ j, i ≤ j → j < i + d → P j = false
  | 0, i, _, j, h1, h2 => by omega
  | d + 1, i, h, j, h1, h2 => by
    have h : (if P i = true then 1 else 0) + cntF P d (i + 1) = 0 := h
    have a : P i = false := by
      cases e : P i
      · rfl
      · rw [if_pos e] at h; omega
    by_cases e : j = i
    · rw [e]; exact a
    · exact cnt_0 d (i + 1) (by omega) j (by omega) (by omega)
def jfS (s : ST) (i : Nat) : ST := c_pr_ (plc (nop (c_be_ s (up1 (c_be s) i 2)) i 0) i 0 none none) (up1 (c_pr s) i [])
theorem jfS_f (s : ST) (i : Nat) : c_ck (jfS s i) = c_ck s ∧ c_cu (jfS s i) = c_cu s ∧ c_bg (jfS s i) = c_bg s ∧ vw (jfS s i) = (c_n s, c_nm s, c_bt s, up1 (c_be s) i 2) ∧ c_ms (jfS s i) = c_ms s ∧ c_ol (jfS s i) = c_ol s ∧ c_pr (jfS s i) = up1 (c_pr s) i [] ∧ c_ev (jfS s i) = c_ev s ∧ c_na (jfS s i) = c_na s ∧ c_ak (jfS s i) = c_ak s ∧ c_hs (jfS s i) = up2 (fun j l => if j = i ∧ 0 ≤ l ∧ l < 9 then false else c_hs s j l) i 0 true ∧ c_kl (jfS s i) = up3 (up3 (fun j l d => if j = i ∧ 0 ≤ l ∧ l < 9 then none else c_kl s j l d) i 0 0 none) i 0 1 none ∧ c_n (jfS s i) = c_n s ∧ c_be (jfS s i) = up1 (c_be s) i 2 := by
  simp only [jfS, nop, plc, vw, C_n_n, C_n_nm, C_n_bt, C_n_be, C_n_ld, C_n_hs, C_n_kl, C_n_ol, C_n_pr, C_n_dr, C_n_ev, C_n_na, C_n_ak, C_n_ms, C_n_ck, C_n_cp, C_n_cu, C_n_cb, C_n_bg, C_nm_n, C_nm_nm, C_nm_bt, C_nm_be, C_nm_ld, C_nm_hs, C_nm_kl, C_nm_ol, C_nm_pr, C_nm_dr, C_nm_ev, C_nm_na, C_nm_ak, C_nm_ms, C_nm_ck, C_nm_cp, C_nm_cu, C_nm_cb, C_nm_bg, C_bt_n, C_bt_nm, C_bt_bt, C_bt_be, C_bt_ld, C_bt_hs, C_bt_kl, C_bt_ol, C_bt_pr, C_bt_dr, C_bt_ev, C_bt_na, C_bt_ak, C_bt_ms, C_bt_ck, C_bt_cp, C_bt_cu, C_bt_cb, C_bt_bg, C_be_n, C_be_nm, C_be_bt, C_be_be, C_be_ld, C_be_hs, C_be_kl, C_be_ol, C_be_pr, C_be_dr, C_be_ev, C_be_na, C_be_ak, C_be_ms, C_be_ck, C_be_cp, C_be_cu, C_be_cb, C_be_bg, C_ld_n, C_ld_nm, C_ld_bt, C_ld_be, C_ld_ld, C_ld_hs, C_ld_kl, C_ld_ol, C_ld_pr, C_ld_dr, C_ld_ev, C_ld_na, C_ld_ak, C_ld_ms, C_ld_ck, C_ld_cp, C_ld_cu, C_ld_cb, C_ld_bg, C_hs_n, C_hs_nm, C_hs_bt, C_hs_be, C_hs_ld, C_hs_hs, C_hs_kl, C_hs_ol, C_hs_pr, C_hs_dr, C_hs_ev, C_hs_na, C_hs_ak, C_hs_ms, C_hs_ck, C_hs_cp, C_hs_cu, C_hs_cb, C_hs_bg, C_kl_n, C_kl_nm, C_kl_bt, C_kl_be, C_kl_ld, C_kl_hs, C_kl_kl, C_kl_ol, C_kl_pr, C_kl_dr, C_kl_ev, C_kl_na, C_kl_ak, C_kl_ms, C_kl_ck, C_kl_cp, C_kl_cu, C_kl_cb, C_kl_bg, C_ol_n, C_ol_nm, C_ol_bt, C_ol_be, C_ol_ld, C_ol_hs, C_ol_kl, C_ol_ol, C_ol_pr, C_ol_dr, C_ol_ev, C_ol_na, C_ol_ak, C_ol_ms, C_ol_ck, C_ol_cp, C_ol_cu, C_ol_cb, C_ol_bg, C_pr_n, C_pr_nm, C_pr_bt, C_pr_be, C_pr_ld, C_pr_hs, C_pr_kl, C_pr_ol, C_pr_pr, C_pr_dr, C_pr_ev, C_pr_na, C_pr_ak, C_pr_ms, C_pr_ck, C_pr_cp, C_pr_cu, C_pr_cb, C_pr_bg, C_dr_n, C_dr_nm, C_dr_bt, C_dr_be, C_dr_ld, C_dr_hs, C_dr_kl, C_dr_ol, C_dr_pr, C_dr_dr, C_dr_ev, C_dr_na, C_dr_ak, C_dr_ms, C_dr_ck, C_dr_cp, C_dr_cu, C_dr_cb, C_dr_bg, C_ev_n, C_ev_nm, C_ev_bt, C_ev_be, C_ev_ld, C_ev_hs, C_ev_kl, C_ev_ol, C_ev_pr, C_ev_dr, C_ev_ev, C_ev_na, C_ev_ak, C_ev_ms, C_ev_ck, C_ev_cp, C_ev_cu, C_ev_cb, C_ev_bg, C_na_n, C_na_nm, C_na_bt, C_na_be, C_na_ld, C_na_hs, C_na_kl, C_na_ol, C_na_pr, C_na_dr, C_na_ev, C_na_na, C_na_ak, C_na_ms, C_na_ck, C_na_cp, C_na_cu, C_na_cb, C_na_bg, C_ak_n, C_ak_nm, C_ak_bt, C_ak_be, C_ak_ld, C_ak_hs, C_ak_kl, C_ak_ol, C_ak_pr, C_ak_dr, C_ak_ev, C_ak_na, C_ak_ak, C_ak_ms, C_ak_ck, C_ak_cp, C_ak_cu, C_ak_cb, C_ak_bg, C_ms_n, C_ms_nm, C_ms_bt, C_ms_be, C_ms_ld, C_ms_hs, C_ms_kl, C_ms_ol, C_ms_pr, C_ms_dr, C_ms_ev, C_ms_na, C_ms_ak, C_ms_ms, C_ms_ck, C_ms_cp, C_ms_cu, C_ms_cb, C_ms_bg, C_ck_n, C_ck_nm, C_ck_bt, C_ck_be, C_ck_ld, C_ck_hs, C_ck_kl, C_ck_ol, C_ck_pr, C_ck_dr, C_ck_ev, C_ck_na, C_ck_ak, C_ck_ms, C_ck_ck, C_ck_cp, C_ck_cu, C_ck_cb, C_ck_bg, C_cp_n, C_cp_nm, C_cp_bt, C_cp_be, C_cp_ld, C_cp_hs, C_cp_kl, C_cp_ol, C_cp_pr, C_cp_dr, C_cp_ev, C_cp_na, C_cp_ak, C_cp_ms, C_cp_ck, C_cp_cp, C_cp_cu, C_cp_cb, C_cp_bg, C_cu_n, C_cu_nm, C_cu_bt, C_cu_be, C_cu_ld, C_cu_hs, C_cu_kl, C_cu_ol, C_cu_pr, C_cu_dr, C_cu_ev, C_cu_na, C_cu_ak, C_cu_ms, C_cu_ck, C_cu_cp, C_cu_cu, C_cu_cb, C_cu_bg, C_cb_n, C_cb_nm, C_cb_bt, C_cb_be, C_cb_ld, C_cb_hs, C_cb_kl, C_cb_ol, C_cb_pr, C_cb_dr, C_cb_ev, C_cb_na, C_cb_ak, C_cb_ms, C_cb_ck, C_cb_cp, C_cb_cu, C_cb_cb, C_cb_bg, C_bg_n, C_bg_nm, C_bg_bt, C_bg_be, C_bg_ld, C_bg_hs, C_bg_kl, C_bg_ol, C_bg_pr, C_bg_dr, C_bg_ev, C_bg_na, C_bg_ak, C_bg_ms, C_bg_ck, C_bg_cp, C_bg_cu, C_bg_cb, C_bg_bg, and_self]
theorem jf_inv {t : Nat} {s : ST} {i : Nat} (h : INV t s) (h0 : ph0 s) (hi : i < c_n s) (hn : nIn s = 0) : INV t (jfS s i) := by
  obtain ⟨t1, t2, t4, t5, t6, t7, t8, t9, t10, t11, t12, t13, t14, t15⟩ := jfS_f s i
  generalize jfS s i = s' at *
  have hb := h.1.1
  have no : ∀ p, p < c_n s → c_be s p ≠ 2 := fun p hp e => by
    have := cnt_0 _ _ hn p (Nat.zero_le _) (by omega)
    rw [e] at this
    cases this
  have ki : ∀ l d, l < 9 → c_kl s' i l d = none := fun l d hl => by
    rw [t13]
    by_cases c1 : i = i ∧ l = 0 ∧ d = 1
    · rw [c1.2.1, c1.2.2, up3_s]
    · rw [up3_n _ _ c1]
      by_cases c2 : i = i ∧ l = 0 ∧ d = 0
      · rw [c2.2.1, c2.2.2, up3_s]
      · rw [up3_n _ _ c2]
        exact if_pos ⟨rfl, Nat.zero_le _, hl⟩
  have kn' : ∀ z l d p, c_kl s' z l d = some p → c_kl s z l d = some p := fun z l d p e => by
    rw [t13] at e
    by_cases c1 : z = i ∧ l = 0 ∧ d = 1
    · rw [c1.1, c1.2.1, c1.2.2, up3_s] at e; cases e
    · rw [up3_n _ _ c1] at e
      by_cases c2 : z = i ∧ l = 0 ∧ d = 0
      · rw [c2.1, c2.2.1, c2.2.2, up3_s] at e; cases e
      · rw [up3_n _ _ c2] at e
        have e : (if z = i ∧ 0 ≤ l ∧ l < 9 then none else c_kl s z l d) = some p := e
        by_cases c3 : z = i ∧ 0 ≤ l ∧ l < 9
        · rw [if_pos c3] at e; cases e
        · rw [if_neg c3] at e; exact e
  refine ⟨⟨⟨by rw [t14]; exact hb.1, by rw [t5]; exact hb.2.1, ?_, ?_⟩, ?_, ?_, Or.inl ⟨t1.trans h0.1, t2.trans h0.2.1, fun p hp => ?_, by rw [t6]; exact h0.2.2.2.1, ?_⟩⟩, fun z => ?_⟩
  · rw [t12, t13]; exact hk_plc (hk_nop hb.2.2.1 _ _) _ (by decide) none none
  · refine ⟨fun j l d p hj e => ?_, fun j d p hj e => ?_⟩
    · rw [t14] at hj ⊢
      exact hb.2.2.2.1 j l d p hj (kn' j l d p e)
    · rw [t14] at hj ⊢
      rw [t7] at e
      exact hb.2.2.2.2 j d p hj e
  · unfold I_p
    rw [t14, t9, t8, t4]
    exact ⟨up1_pr h.1.2.1 (pr_nil _), h.1.2.1.2⟩
  · unfold I_q
    rw [t10, t11, t9, t14, t6]
    exact h.1.2.2.1
  · rw [t14] at hp
    rw [t15]
    by_cases e : p = i
    · rw [e, up1_s]; exact Or.inr rfl
    · rw [up1_n _ _ e]; exact h0.2.2.1 p hp
  · rw [t5]
    intro z z1 z2 l hl d hd
    have only : ∀ q, q < c_n s → up1 (c_be s) i 2 q = 2 → q = i := fun q hq e => by
      by_cases c : q = i
      · exact c
      · rw [up1_n _ _ c] at e; exact absurd e (no q hq)
    rw [only z z1 z2, ki l d hl]
    intro q q1 q2 q3
    rw [only q q1.1 q1.2.1] at q3
    omega
  · rw [t1, h0.1] at z; omega
def jbS (s : ST) (i : Nat) : ST := c_be_ (c_bg_ (c_cu_ (c_cp_ (c_ck_ s 1) i) false) []) (up1 (c_be s) i 1)
theorem jbS_f (s : ST) (i : Nat) : c_ck (jbS s i) = 1 ∧ c_cu (jbS s i) = false ∧ c_cp (jbS s i) = i ∧ c_bg (jbS s i) = [] ∧ vw (jbS s i) = (c_n s, c_nm s, c_bt s, up1 (c_be s) i 1) ∧ c_ms (jbS s i) = c_ms s ∧ c_ol (jbS s i) = c_ol s ∧ c_pr (jbS s i) = c_pr s ∧ c_ev (jbS s i) = c_ev s ∧ c_na (jbS s i) = c_na s ∧ c_ak (jbS s i) = c_ak s ∧ c_hs (jbS s i) = c_hs s ∧ c_kl (jbS s i) = c_kl s ∧ c_n (jbS s i) = c_n s ∧ c_be (jbS s i) = up1 (c_be s) i 1 := by
  simp only [jbS, vw, C_n_n, C_n_nm, C_n_bt, C_n_be, C_n_ld, C_n_hs, C_n_kl, C_n_ol, C_n_pr, C_n_dr, C_n_ev, C_n_na, C_n_ak, C_n_ms, C_n_ck, C_n_cp, C_n_cu, C_n_cb, C_n_bg, C_nm_n, C_nm_nm, C_nm_bt, C_nm_be, C_nm_ld, C_nm_hs, C_nm_kl, C_nm_ol, C_nm_pr, C_nm_dr, C_nm_ev, C_nm_na, C_nm_ak, C_nm_ms, C_nm_ck, C_nm_cp, C_nm_cu, C_nm_cb, C_nm_bg, C_bt_n, C_bt_nm, C_bt_bt, C_bt_be, C_bt_ld, C_bt_hs, C_bt_kl, C_bt_ol, C_bt_pr, C_bt_dr, C_bt_ev, C_bt_na, C_bt_ak, C_bt_ms, C_bt_ck, C_bt_cp, C_bt_cu, C_bt_cb, C_bt_bg, C_be_n, C_be_nm, C_be_bt, C_be_be, C_be_ld, C_be_hs, C_be_kl, C_be_ol, C_be_pr, C_be_dr, C_be_ev, C_be_na, C_be_ak, C_be_ms, C_be_ck, C_be_cp, C_be_cu, C_be_cb, C_be_bg, C_ld_n, C_ld_nm, C_ld_bt, C_ld_be, C_ld_ld, C_ld_hs, C_ld_kl, C_ld_ol, C_ld_pr, C_ld_dr, C_ld_ev, C_ld_na, C_ld_ak, C_ld_ms, C_ld_ck, C_ld_cp, C_ld_cu, C_ld_cb, C_ld_bg, C_hs_n, C_hs_nm, C_hs_bt, C_hs_be, C_hs_ld, C_hs_hs, C_hs_kl, C_hs_ol, C_hs_pr, C_hs_dr, C_hs_ev, C_hs_na, C_hs_ak, C_hs_ms, C_hs_ck, C_hs_cp, C_hs_cu, C_hs_cb, C_hs_bg, C_kl_n, C_kl_nm, C_kl_bt, C_kl_be, C_kl_ld, C_kl_hs, C_kl_kl, C_kl_ol, C_kl_pr, C_kl_dr, C_kl_ev, C_kl_na, C_kl_ak, C_kl_ms, C_kl_ck, C_kl_cp, C_kl_cu, C_kl_cb, C_kl_bg, C_ol_n, C_ol_nm, C_ol_bt, C_ol_be, C_ol_ld, C_ol_hs, C_ol_kl, C_ol_ol, C_ol_pr, C_ol_dr, C_ol_ev, C_ol_na, C_ol_ak, C_ol_ms, C_ol_ck, C_ol_cp, C_ol_cu, C_ol_cb, C_ol_bg, C_pr_n, C_pr_nm, C_pr_bt, C_pr_be, C_pr_ld, C_pr_hs, C_pr_kl, C_pr_ol, C_pr_pr, C_pr_dr, C_pr_ev, C_pr_na, C_pr_ak, C_pr_ms, C_pr_ck, C_pr_cp, C_pr_cu, C_pr_cb, C_pr_bg, C_dr_n, C_dr_nm, C_dr_bt, C_dr_be, C_dr_ld, C_dr_hs, C_dr_kl, C_dr_ol, C_dr_pr, C_dr_dr, C_dr_ev, C_dr_na, C_dr_ak, C_dr_ms, C_dr_ck, C_dr_cp, C_dr_cu, C_dr_cb, C_dr_bg, C_ev_n, C_ev_nm, C_ev_bt, C_ev_be, C_ev_ld, C_ev_hs, C_ev_kl, C_ev_ol, C_ev_pr, C_ev_dr, C_ev_ev, C_ev_na, C_ev_ak, C_ev_ms, C_ev_ck, C_ev_cp, C_ev_cu, C_ev_cb, C_ev_bg, C_na_n, C_na_nm, C_na_bt, C_na_be, C_na_ld, C_na_hs, C_na_kl, C_na_ol, C_na_pr, C_na_dr, C_na_ev, C_na_na, C_na_ak, C_na_ms, C_na_ck, C_na_cp, C_na_cu, C_na_cb, C_na_bg, C_ak_n, C_ak_nm, C_ak_bt, C_ak_be, C_ak_ld, C_ak_hs, C_ak_kl, C_ak_ol, C_ak_pr, C_ak_dr, C_ak_ev, C_ak_na, C_ak_ak, C_ak_ms, C_ak_ck, C_ak_cp, C_ak_cu, C_ak_cb, C_ak_bg, C_ms_n, C_ms_nm, C_ms_bt, C_ms_be, C_ms_ld, C_ms_hs, C_ms_kl, C_ms_ol, C_ms_pr, C_ms_dr, C_ms_ev, C_ms_na, C_ms_ak, C_ms_ms, C_ms_ck, C_ms_cp, C_ms_cu, C_ms_cb, C_ms_bg, C_ck_n, C_ck_nm, C_ck_bt, C_ck_be, C_ck_ld, C_ck_hs, C_ck_kl, C_ck_ol, C_ck_pr, C_ck_dr, C_ck_ev, C_ck_na, C_ck_ak, C_ck_ms, C_ck_ck, C_ck_cp, C_ck_cu, C_ck_cb, C_ck_bg, C_cp_n, C_cp_nm, C_cp_bt, C_cp_be, C_cp_ld, C_cp_hs, C_cp_kl, C_cp_ol, C_cp_pr, C_cp_dr, C_cp_ev, C_cp_na, C_cp_ak, C_cp_ms, C_cp_ck, C_cp_cp, C_cp_cu, C_cp_cb, C_cp_bg, C_cu_n, C_cu_nm, C_cu_bt, C_cu_be, C_cu_ld, C_cu_hs, C_cu_kl, C_cu_ol, C_cu_pr, C_cu_dr, C_cu_ev, C_cu_na, C_cu_ak, C_cu_ms, C_cu_ck, C_cu_cp, C_cu_cu, C_cu_cb, C_cu_bg, C_cb_n, C_cb_nm, C_cb_bt, C_cb_be, C_cb_ld, C_cb_hs, C_cb_kl, C_cb_ol, C_cb_pr, C_cb_dr, C_cb_ev, C_cb_na, C_cb_ak, C_cb_ms, C_cb_ck, C_cb_cp, C_cb_cu, C_cb_cb, C_cb_bg, C_bg_n, C_bg_nm, C_bg_bt, C_bg_be, C_bg_ld, C_bg_hs, C_bg_kl, C_bg_ol, C_bg_pr, C_bg_dr, C_bg_ev, C_bg_na, C_bg_ak, C_bg_ms, C_bg_ck, C_bg_cp, C_bg_cu, C_bg_cb, C_bg_bg, and_self]
theorem p0_fl {s : ST} (h : ph0 s) : (c_ms s).filter isLk = [] ∧ tkL s = [] := ⟨(ch0 (p0_ch h)).1, (ch0 (p0_ch h)).2.1⟩
theorem jb_inv {t : Nat} {s : ST} {i j : Nat} (h : INV t s) (h0 : ph0 s) (hi : i < c_n s) (bi : c_be s i = 0) (hj : j < c_n s) (bj : c_be s j = 2) : INV t (snd1 (jbS s i) (5, j, none, none, 0, none, none)) := by
  obtain ⟨t1, t2, t3, t4, t5, t6, t7, t8, t9, t10, t11, t12, t13, t14, t15⟩ := jbS_f s i
  generalize jbS s i = s' at *
  have hb := h.1.1
  obtain ⟨z1, z2⟩ := p0_fl h0
  have hb' : I_b s' := by
    refine ⟨by rw [t14]; exact hb.1, by rw [t5]; exact hb.2.1, by rw [t12, t13]; exact hb.2.2.1, ?_⟩
    unfold CLs
    rw [t14, t7, t13]
    exact hb.2.2.2
  have hp' : I_p s' := by
    unfold I_p
    rw [t14, t9, t8, t4]
    exact ⟨h.1.2.1.1, pr_nil _, h.1.2.1.2.2⟩
  have hq' : I_q t s' := by
    unfold I_q
    rw [t10, t11, t9, t14, t6]
    exact h.1.2.2.1
  have ji : j ≠ i := fun e => by rw [e, bi] at bj; cases bj
  have nC : netC s' 0 true := by
    unfold netC
    rw [t3, t14, t15, t5, t13, t6]
    refine ⟨hi, fun p hp hne => by rw [up1_n _ _ hne]; exact h0.2.2.1 p hp, fun g hg g1 g2 => absurd g1 (h0.2.2.2.1 g hg), fun z y1 y2 y3 l hl d hd => Or.inl ?_, by rw [z1]; exact Nat.zero_le _⟩
    have y2 : up1 (c_be s) i 1 z = 2 := y2
    rw [up1_n _ _ y3] at y2
    refine nx_cg (fun q => ?_) (fun _ _ => Iff.rfl) (fun _ _ => rfl) rfl (h0.2.2.2.2 z y1 y2 l hl d hd)
    show (q < c_n s ∧ up1 (c_be s) i 1 q = 2 ∧ (q = i → l < 0)) ↔ (q < c_n s ∧ c_be s q = 2 ∧ (q = 0 → l < 9))
    by_cases e : q = i
    · rw [e, up1_s, bi]
      exact ⟨fun w => absurd w.2.1 (by decide), fun w => absurd w.2.1 (by decide)⟩
    · rw [up1_n _ _ e]
      exact ⟨fun w => ⟨w.1, w.2.1, fun _ => hl⟩, fun w => ⟨w.1, w.2.1, fun z => absurd z e⟩⟩
  have hT : tkL s' = [] := by
    unfold tkL
    rw [t6]
    exact z2
  obtain ⟨r1, r2, r3, r4⟩ := st_J0 (p := j) hb' hp' hq' t1 t2 (by rw [t15, t3, up1_s]) nC t4 hT (by rw [t14]; exact hj) (by rw [t15, up1_n _ _ ji]; exact bj)
  refine ⟨⟨r1, r2, r3, Or.inr r4⟩, fun _ => ?_⟩
  have := chM_snd s' (5, j, none, none, 0, none, none)
  have e : g_as ((5, j, none, none, 0, none, none) : MSG) = none := rfl
  rw [if_pos e] at this
  omega
theorem ck0 {t : Nat} {s : ST} (h : INV t s) (e : ¬ 0 < c_ck s) : ph0 s := by
  rcases h.1.2.2.2 with y | y
  · exact y
  · exact absurd (ic_na y).2.1 e
theorem in_join {t : Nat} {s : ST} {u v : Int32} (h : INV t s) : INV t (o_join s u v).2 := by
  unfold o_join
  by_cases c : ¬ isP s u = true ∨ ¬ isP s v = true
  · rw [if_pos c]; exact h
  · rw [if_neg c]
    have hu : isP s u = true := Classical.not_not.mp (fun z => c (Or.inl z))
    have hv : isP s v = true := Classical.not_not.mp (fun z => c (Or.inr z))
    have u1 := isP_lt hu
    have v1 := isP_lt hv
    simp only
    generalize u.toInt.toNat = i at *
    generalize v.toInt.toNat = j at *
    by_cases c2 : 0 < c_ck s ∨ c_be s i ≠ 0 ∨ (if nIn s = 0 then i ≠ j else c_be s j ≠ 2)
    · rw [if_pos c2]; exact h
    · rw [if_neg c2]
      have h0 := ck0 h (fun z => c2 (Or.inl z))
      have bi : c_be s i = 0 := Classical.not_not.mp (fun z => c2 (Or.inr (Or.inl z)))
      by_cases n0 : nIn s = 0
      · rw [if_pos n0]
        exact jf_inv h h0 u1 n0
      · rw [if_neg n0]
        have bj : c_be s j = 2 := Classical.not_not.mp (fun z => c2 (Or.inr (Or.inr (by rw [if_neg n0]; exact z))))
        exact jb_inv h h0 u1 bi v1 bj
/-! leave and again -/
theorem unlF_eq (u : Nat) : ∀ d l (s : ST), unlF s u d l = c_ms_ s (c_ms s ++ unL (lnk s) u d l)
  | 0, l, s => by
    show s = c_ms_ s (c_ms s ++ [])
    rw [List.append_nil]
    rfl
  | d + 1, l, s => by
    show unlF (sndo (sndo s 7 (lnk s u l 0) (some l) 1 none (lnk s u l 1)) 7 (lnk s u l 1) (some l) 0 (lnk s u l 0) none) u d (l + 1) = _
    rw [sndo_eq, sndo_eq, ms_ms, ms_get, unlF_eq u d (l + 1), ms_ms, ms_get]
    have e : ∀ L, lnk (c_ms_ s L) = lnk s := fun L => rfl
    rw [e]
    simp only [unL, lkL, List.append_assoc]
theorem lnk_fun {s : ST} (h : hKl (c_hs s) (c_kl s)) : lnk s = c_kl s := by
  funext p l d
  exact lnk_kl h p l d
theorem unL_t {kl : Nat → Nat → Nat → Option Nat} {u d l : Nat} : (unL kl u d l).filter isTk = [] := List.filter_eq_nil_iff.mpr (fun g hg => by
  obtain ⟨l', -, -, y⟩ := (mem_unL _ _).mp hg
  rcases mem_lkL.mp y with ⟨p, -, p2⟩ | ⟨p, -, p2⟩
  · rw [p2]; intro z; cases z
  · rw [p2]; intro z; cases z)
theorem unL_q {n : Nat} {kl : Nat → Nat → Nat → Option Nat} {u d l : Nat} (h : ∀ l d p, kl u l d = some p → p < n) : ∀ g, g ∈ unL kl u d l → g_to g < n ∧ g_as g = none := by
  intro g hg
  obtain ⟨l', -, -, y⟩ := (mem_unL _ _).mp hg
  rcases mem_lkL.mp y with ⟨p, p1, p2⟩ | ⟨p, p1, p2⟩
  · rw [p2]; exact ⟨h _ _ _ p1, rfl⟩
  · rw [p2]; exact ⟨h _ _ _ p1, rfl⟩
theorem lv_gen {t : Nat} {s s' : ST} {i : Nat} {H : List MSG} (h : INV t s) (h0 : ph0 s) (hi : i < c_n s) (bi : c_be s i = 2) (hH : H = [] ∨ ∃ w, H = [(10, w, none, none, 0, none, none)] ∧ w < c_n s) (hB : prO (c_ev s) (c_bg s'))
    (t1 : c_ck s' = 2) (t2 : c_cu s' = false) (t3 : c_cp s' = i) (t5 : vw s' = (c_n s, c_nm s, c_bt s, up1 (c_be s) i 3)) (t6 : c_ms s' = c_ms s ++ unL (c_kl s) i 9 0 ++ H) (t7 : c_ol s' = c_ol s) (t8 : c_pr s' = up1 (c_pr s) i []) (t9 : c_ev s' = c_ev s) (t10 : c_na s' = c_na s) (t11 : c_ak s' = c_ak s) (t12 : c_hs s' = c_hs s) (t13 : c_kl s' = c_kl s) : INV t (looks s') := by
  have t14 : c_n s' = c_n s := by show (vw s').1 = _; rw [t5]
  have t15 : c_be s' = up1 (c_be s) i 3 := by show (vw s').2.2.2 = _; rw [t5]
  have hb := h.1.1
  obtain ⟨z1, z2⟩ := p0_fl h0
  have hL : ∀ g, g ∈ H → isLk g = false ∧ g_to g < c_n s ∧ g_as g = none := fun g hg => by
    rcases hH with e | ⟨w, e, w1⟩
    · rw [e] at hg; cases hg
    · rw [e] at hg
      rw [List.mem_singleton.mp hg]
      exact ⟨rfl, w1, rfl⟩
  refine lk_inv ?_ ?_ ?_ (Or.inr (Or.inr (Or.inr ⟨t1, t2, by rw [t3, t15, up1_s], ?_, ?_⟩)))
  · refine ⟨by rw [t14]; exact hb.1, by rw [t5]; exact hb.2.1, by rw [t12, t13]; exact hb.2.2.1, ?_⟩
    unfold CLs
    rw [t14, t7, t13]
    exact hb.2.2.2
  · unfold I_p
    rw [t14, t9, t8]
    exact ⟨up1_pr h.1.2.1 (pr_nil _), hB, h.1.2.1.2.2⟩
  · unfold I_q
    rw [t10, t11, t9, t14, t6]
    refine ⟨h.1.2.2.1.1, mq_ap (mq_ap h.1.2.2.1.2 (unL_q (fun l d p e => hb.2.2.2.1 i l d p hi e))) (fun g hg => (hL g hg).2)⟩
  · unfold netC
    rw [t3, t14, t15, t5, t13, t6]
    exact ⟨hi, fun p hp hne => by rw [up1_n _ _ hne]; exact h0.2.2.1 p hp, na_ap (na_unl (k := 0) hb.2.1 hi (by decide) bi (fun q e => up1_n _ _ e) (fun z => absurd z (by decide)) (fun _ _ _ _ => rfl) h0.2.2.2.1 h0.2.2.2.2) (fun g hg => (hL g hg).1)⟩
  · have e : tkL s' = H.filter isTk := by
      unfold tkL at *
      rw [t6, List.filter_append, List.filter_append, z2, unL_t]
      rfl
    rw [e, t14]
    rcases hH with e | ⟨w, e, w1⟩
    · rw [e]; exact Or.inl rfl
    · rw [e]; exact Or.inr ⟨w, rfl, w1⟩
theorem ag_gen {t : Nat} {s s' : ST} {i : Nat} (h : INV t s) (h0 : ph0 s) (hi : i < c_n s) (bi : c_be s i = 2) (hB : c_bg s' = [])
    (t1 : c_ck s' = 3) (t2 : c_cu s' = true) (t3 : c_cp s' = i) (t5 : vw s' = vw s) (t6 : c_ms s' = c_ms s ++ unL (c_kl s) i 8 1) (t7 : c_ol s' = c_ol s) (t8 : c_pr s' = c_pr s) (t9 : c_ev s' = c_ev s) (t10 : c_na s' = c_na s) (t11 : c_ak s' = c_ak s) (t12 : c_hs s' = fun j l => if j = i ∧ 1 ≤ l ∧ l < 9 then false else c_hs s j l) (t13 : c_kl s' = fun j l d => if j = i ∧ 1 ≤ l ∧ l < 9 then none else c_kl s j l d) : INV t (looks s') := by
  have t14 : c_n s' = c_n s := by show (vw s').1 = (vw s).1; rw [t5]
  have t15 : c_be s' = c_be s := by show (vw s').2.2.2 = (vw s).2.2.2; rw [t5]
  have hb := h.1.1
  obtain ⟨z1, z2⟩ := p0_fl h0
  refine lk_inv ?_ ?_ ?_ (Or.inr (Or.inr (Or.inl ⟨t1, t2, by rw [t3, t15]; exact bi, ?_, ?_, ?_⟩)))
  · refine ⟨by rw [t14]; exact hb.1, by rw [t5]; exact hb.2.1, by rw [t12, t13]; exact hk_nop hb.2.2.1 _ _, ?_⟩
    unfold CLs
    rw [t14, t7, t13]
    refine ⟨fun j l d p hj e => ?_, hb.2.2.2.2⟩
    have e : (if j = i ∧ 1 ≤ l ∧ l < 9 then none else c_kl s j l d) = some p := e
    by_cases c : j = i ∧ 1 ≤ l ∧ l < 9
    · rw [if_pos c] at e; cases e
    · rw [if_neg c] at e
      exact hb.2.2.2.1 j l d p hj e
  · unfold I_p
    rw [t14, t9, t8, hB]
    exact ⟨h.1.2.1.1, pr_nil _, h.1.2.1.2.2⟩
  · unfold I_q
    rw [t10, t11, t9, t14, t6]
    exact ⟨h.1.2.2.1.1, mq_ap h.1.2.2.1.2 (unL_q (fun l d p e => hb.2.2.2.1 i l d p hi e))⟩
  · unfold netC
    rw [t3, t14, t15, t5, t13, t6]
    exact ⟨hi, fun p hp hne => h0.2.2.1 p hp, na_unl (k := 1) hb.2.1 hi (by decide) bi (fun _ _ => rfl) (fun _ => bi) (fun z l d hz => if_neg (fun y => hz y.1)) h0.2.2.2.1 h0.2.2.2.2⟩
  · rw [t5, t3, t12, t13]
    refine ⟨fun l hl d hd => ?_, fun l hl h9 => if_pos ⟨rfl, hl, h9⟩⟩
    have e : l = 0 := by omega
    subst e
    show NU (vw s) i 0 d (if i = i ∧ 1 ≤ 0 ∧ 0 < 9 then none else c_kl s i 0 d)
    rw [if_neg (fun y => by omega)]
    exact nx_self (fun q e => ⟨fun x => ⟨x.1, x.2.1, fun _ => by omega⟩, fun x => ⟨x.1, x.2.1, fun z => absurd z e⟩⟩) (h0.2.2.2.2 i hi bi 0 (by decide) d hd)
  · unfold tkL at *
    rw [t6, List.filter_append, z2, unL_t]
    rfl
