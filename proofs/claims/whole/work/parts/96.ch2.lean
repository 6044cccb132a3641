/-! GIVE, TELL, HAND come; a message of the change is taken -/
theorem nu_be {n : Nat} {nm bt : Nat → Int32} {be be' : Nat → Nat} {u l d : Nat} {o : Option Nat} (e : ∀ q, q ≠ u → be' q = be q) (h : NU (n, nm, bt, be) u l d o) : NU (n, nm, bt, be') u l d o := by
  refine nx_cg (fun q => ?_) (fun _ _ => Iff.rfl) (fun _ _ => rfl) rfl h
  show (q < n ∧ be' q = 2 ∧ (q = u → 0 < 0)) ↔ (q < n ∧ be q = 2 ∧ (q = u → 0 < 0))
  by_cases c : q = u
  · exact ⟨fun x => absurd (x.2.2 c) (by omega), fun x => absurd (x.2.2 c) (by omega)⟩
  · rw [e q c]
theorem li_b {s : ST} {u l : Nat} (h : I_b s) : I_b (linked s u l) := by
  rw [linked_eq]
  exact ib_cg rfl rfl rfl rfl h
theorem li_p {s : ST} {u l : Nat} (h : I_p s) : I_p (linked s u l) := by
  rw [linked_eq]
  exact ip_cg rfl rfl rfl rfl h
/-- the second half of GIVE and TELL: the place of k is made, with a and b -/
theorem st_pl {t : Nat} {s s2 : ST} {k : Nat} {a b : Option Nat} {be' : Nat → Nat} (hb : I_b s) (hq : I_q t s) (hp : I_p s2) (hN : netC s k true) (hT : tkL s = []) (hk : k < 9) (na : NU (vw s) (c_cp s) k 0 a) (nb : NU (vw s) (c_cp s) k 1 b)
    (a1 : c_ck s2 = 1 ∨ c_ck s2 = 3) (a2 : c_cu s2 = false) (e1 : ∀ q, q ≠ c_cp s → be' q = c_be s q) (e2 : be' (c_cp s) = 2) (e3 : 0 < k → c_be s (c_cp s) = 2)
    (f1 : c_cp s2 = c_cp s) (f2 : vw s2 = (c_n s, c_nm s, c_bt s, be')) (f3 : c_ms s2 = c_ms s) (f4 : c_na s2 = c_na s) (f5 : c_ak s2 = c_ak s) (f6 : c_ev s2 = c_ev s) (f7 : c_ol s2 = c_ol s)
    (hK : hKl (c_hs s2) (c_kl s2)) (k0 : c_kl s2 (c_cp s) k 0 = a) (k1 : c_kl s2 (c_cp s) k 1 = b) (k2 : ∀ z l d, z ≠ c_cp s → c_kl s2 z l d = c_kl s z l d) (hc : CLs s2)
    (hU1 : ∀ l, l < k → ∀ d, d < 2 → NU (vw s) (c_cp s) l d (c_kl s2 (c_cp s) l d)) (hU2 : ∀ l, k + 1 ≤ l → l < 9 → c_hs s2 (c_cp s) l = false) :
    I_b (linked s2 (c_cp s) k) ∧ I_p (linked s2 (c_cp s) k) ∧ I_q t (linked s2 (c_cp s) k) ∧ I_c (linked s2 (c_cp s) k) := by
  have n1 : c_n s2 = c_n s := by show (vw s2).1 = c_n s; rw [f2]
  have b1 : c_be s2 = be' := by show (vw s2).2.2.2 = be'; rw [f2]
  have hb2 : I_b s2 := ⟨by rw [n1]; exact hb.1, by rw [f2]; exact hb.2.1, hK, hc⟩
  have hq2 : I_q t s2 := by
    unfold I_q at *
    rw [f4, f5, f6, f3, n1]
    exact hq
  have hU : netU (vw s2) (c_hs s2) (c_kl s2) (k + 1) (c_cp s2) := by
    rw [f1, f2]
    refine ⟨fun l hl d hd => ?_, hU2⟩
    by_cases e : l = k
    · rw [e]
      by_cases c : d = 0
      · rw [c, k0]; exact nu_be e1 na
      · rw [show d = 1 by omega, k1]; exact nu_be e1 nb
    · exact nu_be e1 (hU1 l (by omega) d hd)
  have hA : netA (vw s2) (c_kl s2) (c_ms s2 ++ lkL k (c_kl s2 (c_cp s2) k 0) (c_kl s2 (c_cp s2) k 1) (some (c_cp s2)) (some (c_cp s2))) (k + 1) (c_cp s2) true := by
    rw [f1, f2, f3, k0, k1]
    exact na_grow hb.2.1 hN.1 hk e1 e2 e3 k2 hN.2.2 na nb
  have hT2 : tkL s2 = [] := by
    unfold tkL at *
    rw [f3]
    exact hT
  have r1 := li_b (u := c_cp s2) (l := k) hb2
  have r2 := li_p (u := c_cp s2) (l := k) hp
  have r3 := iq_linked hq2 hK hk hU
  have r4 := st_linked a1 a2 (by rw [b1, f1]; exact e2) hk (by rw [f1, n1]; exact hN.1) (fun p hp hne => by
    rw [n1] at hp
    rw [f1] at hne
    rw [b1, e1 p hne]
    exact hN.2.1 p hp hne) hK hA hU hT2
  rw [f1] at r1 r2 r3 r4
  exact ⟨r1, r2, r3, Or.inr (Or.inl ⟨_, r4⟩)⟩
theorem st_T {t : Nat} {s : ST} {k : Nat} {a b : Option Nat} (hb : I_b s) (hp : I_p s) (hq : I_q t s) (a1 : c_ck s = 1 ∨ c_ck s = 3) (a2 : c_cu s = false) (a3 : c_be s (c_cp s) = 2) (hk : k < 9) (hN : netC s k true) (hU : netU (vw s) (c_hs s) (c_kl s) k (c_cp s)) (hT : tkL s = []) (na : NU (vw s) (c_cp s) k 0 a) (nb : NU (vw s) (c_cp s) k 1 b) :
    I_b (linked (plc s (c_cp s) k a b) (c_cp s) k) ∧ I_p (linked (plc s (c_cp s) k a b) (c_cp s) k) ∧ I_q t (linked (plc s (c_cp s) k a b) (c_cp s) k) ∧ I_c (linked (plc s (c_cp s) k a b) (c_cp s) k) := by
  have f : c_ck (plc s (c_cp s) k a b) = c_ck s ∧ c_cu (plc s (c_cp s) k a b) = c_cu s ∧ c_cp (plc s (c_cp s) k a b) = c_cp s ∧ c_bg (plc s (c_cp s) k a b) = c_bg s ∧ vw (plc s (c_cp s) k a b) = (c_n s, c_nm s, c_bt s, c_be s) ∧ c_ms (plc s (c_cp s) k a b) = c_ms s ∧ c_ol (plc s (c_cp s) k a b) = c_ol s ∧ c_pr (plc s (c_cp s) k a b) = c_pr s ∧ c_ev (plc s (c_cp s) k a b) = c_ev s ∧ c_na (plc s (c_cp s) k a b) = c_na s ∧ c_ak (plc s (c_cp s) k a b) = c_ak s ∧ c_hs (plc s (c_cp s) k a b) = up2 (c_hs s) (c_cp s) k true ∧ c_kl (plc s (c_cp s) k a b) = up3 (up3 (c_kl s) (c_cp s) k 0 a) (c_cp s) k 1 b ∧ c_n (plc s (c_cp s) k a b) = c_n s := by
    simp only [plc, vw, C_n_n, C_n_nm, C_n_bt, C_n_be, C_n_ld, C_n_hs, C_n_kl, C_n_ol, C_n_pr, C_n_dr, C_n_ev, C_n_na, C_n_ak, C_n_ms, C_n_ck, C_n_cp, C_n_cu, C_n_cb, C_n_bg, C_nm_n, C_nm_nm, C_nm_bt, C_nm_be, C_nm_ld, C_nm_hs, C_nm_kl, C_nm_ol, C_nm_pr, C_nm_dr, C_nm_ev, C_nm_na, C_nm_ak, C_nm_ms, C_nm_ck, C_nm_cp, C_nm_cu, C_nm_cb, C_nm_bg, C_bt_n, C_bt_nm, C_bt_bt, C_bt_be, C_bt_ld, C_bt_hs, C_bt_kl, C_bt_ol, C_bt_pr, C_bt_dr, C_bt_ev, C_bt_na, C_bt_ak, C_bt_ms, C_bt_ck, C_bt_cp, C_bt_cu, C_bt_cb, C_bt_bg, C_be_n, C_be_nm, C_be_bt, C_be_be, C_be_ld, C_be_hs, C_be_kl, C_be_ol, C_be_pr, C_be_dr, C_be_ev, C_be_na, C_be_ak, C_be_ms, C_be_ck, C_be_cp, C_be_cu, C_be_cb, C_be_bg, C_ld_n, C_ld_nm, C_ld_bt, C_ld_be, C_ld_ld, C_ld_hs, C_ld_kl, C_ld_ol, C_ld_pr, C_ld_dr, C_ld_ev, C_ld_na, C_ld_ak, C_ld_ms, C_ld_ck, C_ld_cp, C_ld_cu, C_ld_cb, C_ld_bg, C_hs_n, C_hs_nm, C_hs_bt, C_hs_be, C_hs_ld, C_hs_hs, C_hs_kl, C_hs_ol, C_hs_pr, C_hs_dr, C_hs_ev, C_hs_na, C_hs_ak, C_hs_ms, C_hs_ck, C_hs_cp, C_hs_cu, C_hs_cb, C_hs_bg, C_kl_n, C_kl_nm, C_kl_bt, C_kl_be, C_kl_ld, C_kl_hs, C_kl_kl, C_kl_ol, C_kl_pr, C_kl_dr, C_kl_ev, C_kl_na, C_kl_ak, C_kl_ms, C_kl_ck, C_kl_cp, C_kl_cu, C_kl_cb, C_kl_bg, C_ol_n, C_ol_nm, C_ol_bt, C_ol_be, C_ol_ld, C_ol_hs, C_ol_kl, C_ol_ol, C_ol_pr, C_ol_dr, C_ol_ev, C_ol_na, C_ol_ak, C_ol_ms, C_ol_ck, C_ol_cp, C_ol_cu, C_ol_cb, C_ol_bg, C_pr_n, C_pr_nm, C_pr_bt, C_pr_be, C_pr_ld, C_pr_hs, C_pr_kl, C_pr_ol, C_pr_pr, C_pr_dr, C_pr_ev, C_pr_na, C_pr_ak, C_pr_ms, C_pr_ck, C_pr_cp, C_pr_cu, C_pr_cb, C_pr_bg, C_dr_n, C_dr_nm, C_dr_bt, C_dr_be, C_dr_ld, C_dr_hs, C_dr_kl, C_dr_ol, C_dr_pr, C_dr_dr, C_dr_ev, C_dr_na, C_dr_ak, C_dr_ms, C_dr_ck, C_dr_cp, C_dr_cu, C_dr_cb, C_dr_bg, C_ev_n, C_ev_nm, C_ev_bt, C_ev_be, C_ev_ld, C_ev_hs, C_ev_kl, C_ev_ol, C_ev_pr, C_ev_dr, C_ev_ev, C_ev_na, C_ev_ak, C_ev_ms, C_ev_ck, C_ev_cp, C_ev_cu, C_ev_cb, C_ev_bg, C_na_n, C_na_nm, C_na_bt, C_na_be, C_na_ld, C_na_hs, C_na_kl, C_na_ol, C_na_pr, C_na_dr, C_na_ev, C_na_na, C_na_ak, C_na_ms, C_na_ck, C_na_cp, C_na_cu, C_na_cb, C_na_bg, C_ak_n, C_ak_nm, C_ak_bt, C_ak_be, C_ak_ld, C_ak_hs, C_ak_kl, C_ak_ol, C_ak_pr, C_ak_dr, C_ak_ev, C_ak_na, C_ak_ak, C_ak_ms, C_ak_ck, C_ak_cp, C_ak_cu, C_ak_cb, C_ak_bg, C_ms_n, C_ms_nm, C_ms_bt, C_ms_be, C_ms_ld, C_ms_hs, C_ms_kl, C_ms_ol, C_ms_pr, C_ms_dr, C_ms_ev, C_ms_na, C_ms_ak, C_ms_ms, C_ms_ck, C_ms_cp, C_ms_cu, C_ms_cb, C_ms_bg, C_ck_n, C_ck_nm, C_ck_bt, C_ck_be, C_ck_ld, C_ck_hs, C_ck_kl, C_ck_ol, C_ck_pr, C_ck_dr, C_ck_ev, C_ck_na, C_ck_ak, C_ck_ms, C_ck_ck, C_ck_cp, C_ck_cu, C_ck_cb, C_ck_bg, C_cp_n, C_cp_nm, C_cp_bt, C_cp_be, C_cp_ld, C_cp_hs, C_cp_kl, C_cp_ol, C_cp_pr, C_cp_dr, C_cp_ev, C_cp_na, C_cp_ak, C_cp_ms, C_cp_ck, C_cp_cp, C_cp_cu, C_cp_cb, C_cp_bg, C_cu_n, C_cu_nm, C_cu_bt, C_cu_be, C_cu_ld, C_cu_hs, C_cu_kl, C_cu_ol, C_cu_pr, C_cu_dr, C_cu_ev, C_cu_na, C_cu_ak, C_cu_ms, C_cu_ck, C_cu_cp, C_cu_cu, C_cu_cb, C_cu_bg, C_cb_n, C_cb_nm, C_cb_bt, C_cb_be, C_cb_ld, C_cb_hs, C_cb_kl, C_cb_ol, C_cb_pr, C_cb_dr, C_cb_ev, C_cb_na, C_cb_ak, C_cb_ms, C_cb_ck, C_cb_cp, C_cb_cu, C_cb_cb, C_cb_bg, C_bg_n, C_bg_nm, C_bg_bt, C_bg_be, C_bg_ld, C_bg_hs, C_bg_kl, C_bg_ol, C_bg_pr, C_bg_dr, C_bg_ev, C_bg_na, C_bg_ak, C_bg_ms, C_bg_ck, C_bg_cp, C_bg_cu, C_bg_cb, C_bg_bg, and_self]
  have hc : CLs (plc s (c_cp s) k a b) := cl_plc hb.2.2.2 (fun x e => nu_lt na e) (fun x e => nu_lt nb e)
  obtain ⟨t1, t2, t3, t4, t5, t6, t7, t8, t9, t10, t11, t12, t13, t14⟩ := f
  generalize plc s (c_cp s) k a b = s2 at *
  refine st_pl hb hq (ip_cg t14 t8 t4 t9 hp) hN hT hk na nb (by rw [t1]; exact a1) (by rw [t2]; exact a2) (fun _ _ => rfl) a3 (fun _ => a3) t3 t5 t6 t10 t11 t9 t7 (by rw [t12, t13]; exact hk_plc hb.2.2.1 _ hk a b) (by rw [t13]; exact pl_0 _ _ _ _ _) (by rw [t13]; exact up3_s _ _ _ _ _) (fun z l d hz => ?_) hc (fun l hl d hd => ?_) (fun l hl h9 => ?_)
  · rw [t13, up3_n _ _ (fun y => hz y.1), up3_n _ _ (fun y => hz y.1)]
  · rw [t13, up3_n _ _ (fun y => by omega), up3_n _ _ (fun y => by omega)]
    exact hU.1 l hl d hd
  · rw [t12, up2_n _ _ (fun y => by omega)]
    exact hU.2 l (by omega) h9
def gvS (s : ST) (u : Nat) (a b : Option Nat) : ST := c_bg_ (c_pr_ (plc (nop (c_be_ s (up1 (c_be s) u 2)) u 0) u 0 a b) (up1 (c_pr s) u (inl1 [] (c_bg s)))) []
theorem st_G {t : Nat} {s : ST} {a b : Option Nat} (hb : I_b s) (hp : I_p s) (hq : I_q t s) (a1 : c_ck s = 1) (a2 : c_cu s = false) (hN : netC s 0 true) (hT : tkL s = []) (na : NU (vw s) (c_cp s) 0 0 a) (nb : NU (vw s) (c_cp s) 0 1 b) :
    I_b (linked (gvS s (c_cp s) a b) (c_cp s) 0) ∧ I_p (linked (gvS s (c_cp s) a b) (c_cp s) 0) ∧ I_q t (linked (gvS s (c_cp s) a b) (c_cp s) 0) ∧ I_c (linked (gvS s (c_cp s) a b) (c_cp s) 0) := by
  have f : c_ck (gvS s (c_cp s) a b) = c_ck s ∧ c_cu (gvS s (c_cp s) a b) = c_cu s ∧ c_cp (gvS s (c_cp s) a b) = c_cp s ∧ c_bg (gvS s (c_cp s) a b) = [] ∧ vw (gvS s (c_cp s) a b) = (c_n s, c_nm s, c_bt s, up1 (c_be s) (c_cp s) 2) ∧ c_ms (gvS s (c_cp s) a b) = c_ms s ∧ c_ol (gvS s (c_cp s) a b) = c_ol s ∧ c_pr (gvS s (c_cp s) a b) = up1 (c_pr s) (c_cp s) (inl1 [] (c_bg s)) ∧ c_ev (gvS s (c_cp s) a b) = c_ev s ∧ c_na (gvS s (c_cp s) a b) = c_na s ∧ c_ak (gvS s (c_cp s) a b) = c_ak s ∧ c_hs (gvS s (c_cp s) a b) = up2 (fun j l => if j = c_cp s ∧ 0 ≤ l ∧ l < 9 then false else c_hs s j l) (c_cp s) 0 true ∧ c_kl (gvS s (c_cp s) a b) = up3 (up3 (fun j l d => if j = c_cp s ∧ 0 ≤ l ∧ l < 9 then none else c_kl s j l d) (c_cp s) 0 0 a) (c_cp s) 0 1 b ∧ c_n (gvS s (c_cp s) a b) = c_n s := by
    simp only [gvS, nop, plc, vw, C_n_n, C_n_nm, C_n_bt, C_n_be, C_n_ld, C_n_hs, C_n_kl, C_n_ol, C_n_pr, C_n_dr, C_n_ev, C_n_na, C_n_ak, C_n_ms, C_n_ck, C_n_cp, C_n_cu, C_n_cb, C_n_bg, C_nm_n, C_nm_nm, C_nm_bt, C_nm_be, C_nm_ld, C_nm_hs, C_nm_kl, C_nm_ol, C_nm_pr, C_nm_dr, C_nm_ev, C_nm_na, C_nm_ak, C_nm_ms, C_nm_ck, C_nm_cp, C_nm_cu, C_nm_cb, C_nm_bg, C_bt_n, C_bt_nm, C_bt_bt, C_bt_be, C_bt_ld, C_bt_hs, C_bt_kl, C_bt_ol, C_bt_pr, C_bt_dr, C_bt_ev, C_bt_na, C_bt_ak, C_bt_ms, C_bt_ck, C_bt_cp, C_bt_cu, C_bt_cb, C_bt_bg, C_be_n, C_be_nm, C_be_bt, C_be_be, C_be_ld, C_be_hs, C_be_kl, C_be_ol, C_be_pr, C_be_dr, C_be_ev, C_be_na, C_be_ak, C_be_ms, C_be_ck, C_be_cp, C_be_cu, C_be_cb, C_be_bg, C_ld_n, C_ld_nm, C_ld_bt, C_ld_be, C_ld_ld, C_ld_hs, C_ld_kl, C_ld_ol, C_ld_pr, C_ld_dr, C_ld_ev, C_ld_na, C_ld_ak, C_ld_ms, C_ld_ck, C_ld_cp, C_ld_cu, C_ld_cb, C_ld_bg, C_hs_n, C_hs_nm, C_hs_bt, C_hs_be, C_hs_ld, C_hs_hs, C_hs_kl, C_hs_ol, C_hs_pr, C_hs_dr, C_hs_ev, C_hs_na, C_hs_ak, C_hs_ms, C_hs_ck, C_hs_cp, C_hs_cu, C_hs_cb, C_hs_bg, C_kl_n, C_kl_nm, C_kl_bt, C_kl_be, C_kl_ld, C_kl_hs, C_kl_kl, C_kl_ol, C_kl_pr, C_kl_dr, C_kl_ev, C_kl_na, C_kl_ak, C_kl_ms, C_kl_ck, C_kl_cp, C_kl_cu, C_kl_cb, C_kl_bg, C_ol_n, C_ol_nm, C_ol_bt, C_ol_be, C_ol_ld, C_ol_hs, C_ol_kl, C_ol_ol, C_ol_pr, C_ol_dr, C_ol_ev, C_ol_na, C_ol_ak, C_ol_ms, C_ol_ck, C_ol_cp, C_ol_cu, C_ol_cb, C_ol_bg, C_pr_n, C_pr_nm, C_pr_bt, C_pr_be, C_pr_ld, C_pr_hs, C_pr_kl, C_pr_ol, C_pr_pr, C_pr_dr, C_pr_ev, C_pr_na, C_pr_ak, C_pr_ms, C_pr_ck, C_pr_cp, C_pr_cu, C_pr_cb, C_pr_bg, C_dr_n, C_dr_nm, C_dr_bt, C_dr_be, C_dr_ld, C_dr_hs, C_dr_kl, C_dr_ol, C_dr_pr, C_dr_dr, C_dr_ev, C_dr_na, C_dr_ak, C_dr_ms, C_dr_ck, C_dr_cp, C_dr_cu, C_dr_cb, C_dr_bg, C_ev_n, C_ev_nm, C_ev_bt, C_ev_be, C_ev_ld, C_ev_hs, C_ev_kl, C_ev_ol, C_ev_pr, C_ev_dr, C_ev_ev, C_ev_na, C_ev_ak, C_ev_ms, C_ev_ck, C_ev_cp, C_ev_cu, C_ev_cb, C_ev_bg, C_na_n, C_na_nm, C_na_bt, C_na_be, C_na_ld, C_na_hs, C_na_kl, C_na_ol, C_na_pr, C_na_dr, C_na_ev, C_na_na, C_na_ak, C_na_ms, C_na_ck, C_na_cp, C_na_cu, C_na_cb, C_na_bg, C_ak_n, C_ak_nm, C_ak_bt, C_ak_be, C_ak_ld, C_ak_hs, C_ak_kl, C_ak_ol, C_ak_pr, C_ak_dr, C_ak_ev, C_ak_na, C_ak_ak, C_ak_ms, C_ak_ck, C_ak_cp, C_ak_cu, C_ak_cb, C_ak_bg, C_ms_n, C_ms_nm, C_ms_bt, C_ms_be, C_ms_ld, C_ms_hs, C_ms_kl, C_ms_ol, C_ms_pr, C_ms_dr, C_ms_ev, C_ms_na, C_ms_ak, C_ms_ms, C_ms_ck, C_ms_cp, C_ms_cu, C_ms_cb, C_ms_bg, C_ck_n, C_ck_nm, C_ck_bt, C_ck_be, C_ck_ld, C_ck_hs, C_ck_kl, C_ck_ol, C_ck_pr, C_ck_dr, C_ck_ev, C_ck_na, C_ck_ak, C_ck_ms, C_ck_ck, C_ck_cp, C_ck_cu, C_ck_cb, C_ck_bg, C_cp_n, C_cp_nm, C_cp_bt, C_cp_be, C_cp_ld, C_cp_hs, C_cp_kl, C_cp_ol, C_cp_pr, C_cp_dr, C_cp_ev, C_cp_na, C_cp_ak, C_cp_ms, C_cp_ck, C_cp_cp, C_cp_cu, C_cp_cb, C_cp_bg, C_cu_n, C_cu_nm, C_cu_bt, C_cu_be, C_cu_ld, C_cu_hs, C_cu_kl, C_cu_ol, C_cu_pr, C_cu_dr, C_cu_ev, C_cu_na, C_cu_ak, C_cu_ms, C_cu_ck, C_cu_cp, C_cu_cu, C_cu_cb, C_cu_bg, C_cb_n, C_cb_nm, C_cb_bt, C_cb_be, C_cb_ld, C_cb_hs, C_cb_kl, C_cb_ol, C_cb_pr, C_cb_dr, C_cb_ev, C_cb_na, C_cb_ak, C_cb_ms, C_cb_ck, C_cb_cp, C_cb_cu, C_cb_cb, C_cb_bg, C_bg_n, C_bg_nm, C_bg_bt, C_bg_be, C_bg_ld, C_bg_hs, C_bg_kl, C_bg_ol, C_bg_pr, C_bg_dr, C_bg_ev, C_bg_na, C_bg_ak, C_bg_ms, C_bg_ck, C_bg_cp, C_bg_cu, C_bg_cb, C_bg_bg, and_self]
  obtain ⟨t1, t2, t3, t4, t5, t6, t7, t8, t9, t10, t11, t12, t13, t14⟩ := f
  generalize gvS s (c_cp s) a b = s2 at *
  have pp : I_p s2 := by
    unfold I_p
    rw [t14, t9, t8, t4]
    exact ⟨up1_pr hp (pr_inl _ _ (pr_nil _) hp.2.1.2), pr_nil _, hp.2.2⟩
  have hc : CLs s2 := by
    unfold CLs
    rw [t14, t7, t13]
    refine ⟨fun i l d p hi e => ?_, hb.2.2.2.2⟩
    by_cases c1 : i = c_cp s ∧ l = 0 ∧ d = 1
    · rw [c1.1, c1.2.1, c1.2.2, up3_s] at e
      exact nu_lt nb e
    · rw [up3_n _ _ c1] at e
      by_cases c2 : i = c_cp s ∧ l = 0 ∧ d = 0
      · rw [c2.1, c2.2.1, c2.2.2, up3_s] at e
        exact nu_lt na e
      · rw [up3_n _ _ c2] at e
        have e : (if i = c_cp s ∧ 0 ≤ l ∧ l < 9 then none else c_kl s i l d) = some p := e
        by_cases c3 : i = c_cp s ∧ 0 ≤ l ∧ l < 9
        · rw [if_pos c3] at e; cases e
        · rw [if_neg c3] at e
          exact hb.2.2.2.1 i l d p hi e
  refine st_pl hb hq pp hN hT (by decide) na nb (by rw [t1]; exact Or.inl a1) (by rw [t2]; exact a2) (fun q e => up1_n _ _ e) (up1_s _ _ _) (fun z => absurd z (by decide)) t3 t5 t6 t10 t11 t9 t7 (by rw [t12, t13]; exact hk_plc (hk_nop hb.2.2.1 _ _) _ (by decide) a b) (by rw [t13]; exact pl_0 _ _ _ _ _) (by rw [t13]; exact up3_s _ _ _ _ _) (fun z l d hz => ?_) hc (fun l hl d hd => by omega) (fun l hl h9 => ?_)
  · rw [t13, up3_n _ _ (fun y => hz y.1), up3_n _ _ (fun y => hz y.1)]
    exact if_neg (fun y => hz y.1)
  · rw [t12, up2_n _ _ (fun y => by omega)]
    exact if_pos ⟨rfl, Nat.zero_le _, h9⟩
theorem st_H {t : Nat} {s : ST} {w : Nat} (hb : I_b s) (hp : I_p s) (hq : I_q t s) (a1 : c_ck s = 2) (a2 : c_cu s = false) (a3 : c_be s (c_cp s) = 3) (hN : netC s 0 false) (hT : tkL s = []) (hw : w < c_n s) :
    I_b (bgS s (up1 (c_pr s) w (inl1 (c_pr s w) (c_bg s))) []) ∧ I_p (bgS s (up1 (c_pr s) w (inl1 (c_pr s w) (c_bg s))) []) ∧ I_q t (bgS s (up1 (c_pr s) w (inl1 (c_pr s w) (c_bg s))) []) ∧ I_c (bgS s (up1 (c_pr s) w (inl1 (c_pr s w) (c_bg s))) []) := by
  obtain ⟨t1, t2, t3, t4, t5, t6, t7, t8, t9, t10, t11, t12, t13, t14, t15⟩ := bgS_f s (up1 (c_pr s) w (inl1 (c_pr s w) (c_bg s))) []
  exact ⟨bgS_b hb, bgS_p hp (up1_pr hp (pr_inl _ _ (hp.1 w hw) hp.2.1.2)) (pr_nil _), bgS_q hq, Or.inr (Or.inr (Or.inr ⟨t1.trans a1, t2.trans a2, by rw [t15, t3]; exact a3, bgS_n hN, Or.inl (bgS_t hT)⟩))⟩
theorem st_S {t : Nat} {s : ST} {z l d : Nat} (hb : I_b s) (hp : I_p s) (hq : I_q t s) (a1 : c_ck s = 1 ∨ c_ck s = 3) (a2 : c_cu s = false) (a3 : c_be s (c_cp s) = 2) (hl : l < 8) (hN : netC s (l + 1) true) (hU : netU (vw s) (c_hs s) (c_kl s) (l + 1) (c_cp s)) (hT : tkL s = []) (hS : seekO (vw s) (c_cp s) z l d) :
    I_b (comesSeek s z l d) ∧ I_p (comesSeek s z l d) ∧ I_q t (comesSeek s z l d) ∧ I_c (comesSeek s z l d) := by
  obtain ⟨x, e, x1, x2, x3, x4, x5⟩ := st_seek hb.2.1 hb.2.2.1 hl hN hU hS
  rw [e]
  refine ⟨ib_cg rfl rfl rfl rfl hb, ip_cg rfl rfl rfl rfl hp, iq_snd hq x4 x3, Or.inr (Or.inl ⟨l + 1, a1, a2, a3, by omega, by omega, nc_snd hN x2, hU, ?_⟩)⟩
  rw [tk_snd hT x1]
  exact x5
