/-! the reference: come, deliver, all -/
theorem cl_nop {s : ST} (h : CLs s) (u f : Nat) : CLs (nop s u f) := by
  refine ⟨fun i l d p hi hp => ?_, h.2⟩
  have hp : (if i = u ∧ f ≤ l ∧ l < 9 then none else c_kl s i l d) = some p := hp
  by_cases e : i = u ∧ f ≤ l ∧ l < 9
  · rw [if_pos e] at hp; cases hp
  · rw [if_neg e] at hp; exact h.1 i l d p hi hp
theorem cl_plc {s : ST} (h : CLs s) {u l : Nat} {a b : Option Nat} (ha : ∀ x, a = some x → x < c_n s) (hb : ∀ x, b = some x → x < c_n s) : CLs (plc s u l a b) := by
  refine ⟨fun i k d p hi hp => ?_, h.2⟩
  have hp : up3 (up3 (c_kl s) u l 0 a) u l 1 b i k d = some p := hp
  unfold up3 at hp
  by_cases e : i = u ∧ k = l ∧ d = 1
  · rw [if_pos e] at hp; exact hb p hp
  · rw [if_neg e] at hp
    by_cases e2 : i = u ∧ k = l ∧ d = 0
    · rw [if_pos e2] at hp; exact ha p hp
    · rw [if_neg e2] at hp; exact h.1 i k d p hi hp
/-- what must hold, beside TK, of a message that the reference takes -/
def TR (s : ST) (i : Nat) (g : MSG) : Prop := asN (c_ms s) ∧ (g_so g = 5 ∨ g_so g = 6 ∨ g_so g = 10 → ∀ g', g' ∈ (c_ms s).eraseIdx i → ¬ (g_so g' = 6 ∨ g_so g' = 10)) ∧ (g_so g = 6 ∨ g_so g = 9 → g_to g = c_cp s ∧ (∀ x, g_lf g = some x → x < c_n s) ∧ ∀ x, g_rg g = some x → x < c_n s) ∧ (g_so g = 7 → ∀ x, (if g_sd g = 0 then g_lf g else g_rg g) = some x → x < c_n s) ∧ (∀ p, p < c_n s → srt (c_pr s p)) ∧
  (∀ k, g_as g = some k → CLs (comesAsk (tkn s i g) k (g_to g)) ∧ asN (c_ms (comesAsk (tkn s i g) k (g_to g))) ∧ (c_ms (comesAsk (tkn s i g) k (g_to g))).length < 192 ∧ (0 < c_ck (comesAsk (tkn s i g) k (g_to g)) → c_cp (comesAsk (tkn s i g) k (g_to g)) < c_n (comesAsk (tkn s i g) k (g_to g)) ∧ 0 < chM (comesAsk (tkn s i g) k (g_to g)))) ∧
  (g_as g = none → CLs (comesCh (tkn s i g) g) ∧ asN (c_ms (comesCh (tkn s i g) g)))
theorem looks_id {s : ST} (h : 0 < c_ck s → 0 < chM s) : looks s = s := by
  rw [looks_eq]
  have e1 : looks1 s = s := if_neg (fun z => by have := h (by omega); omega)
  rw [e1]
  exact if_neg (fun z => by have := h z.1; omega)
theorem rr_givec {s : ST} {m : MM} {g : MSG} {B : PRS} {a1 a2 a4 a5 a6 : Int32} (h : RR s m) (hc : CLs s) (hu : c_cp s < c_n s) (hlf : ∀ x, g_lf g = some x → x < c_n s) (hrg : ∀ x, g_rg g = some x → x < c_n s) (hB : BGo B m) (rel : inl1 [] B = inl1 [] (c_bg s)) (hl : (inl1 [] (c_bg s)).length ≤ 16) (hno : ∀ g, g ∈ c_ms s → ¬ (g_so g = 6 ∨ g_so g = 10)) (hlen : (c_ms s).length + 3 ≤ 192) :
    ∃ m', (∀ r, go 149 226 [some (vr 8 (some 0)), some (vi a1), some (vi a2), some (vi (nI (c_cp s))), some (vi a4), some (vi a5), some (vi a6), some (vi (enc (g_lf g))), some (vi (enc (g_rg g)))] [] m' = r → go 149 118 [some (vr 8 (some 0)), some (vi a1), some (vi a2), some (vi (nI (c_cp s))), some (vi a4), some (vi a5), some (vi a6), some (vi (enc (g_lf g))), some (vi (enc (g_rg g)))] [] m = r) ∧ RR (linked (c_bg_ (c_pr_ (plc (nop (c_be_ s (up1 (c_be s) (c_cp s) 2)) (c_cp s) 0) (c_cp s) 0 (g_lf g) (g_rg g)) (up1 (c_pr s) (c_cp s) (inl1 [] (c_bg s)))) []) (c_cp s) 0) m' ∧ fs QW m m' := by
  have h32 := h.1.2.2.1
  have hx := h.1.1
  have hn := h.1.2.1
  have i21 := ixN (FN_21 hn) (i := c_cp s) (by omega) (by decide)
  have F1 : fs (fun r k => r = 21 ∧ k = c_cp s) m (sI m 21 0 (c_cp s) 2) := fs1
  have r1 : RRp (c_be_ s (up1 (c_be s) (c_cp s) 2)) (sI m 21 0 (c_cp s) 2) := RRp_be (b := 2) h.1 hu (by decide)
  obtain ⟨m2, d1, d2, d3⟩ := rr_noPlaces (l := 0) r1 hu (by decide)
  rw [show nI 0 = 0 from rfl] at d1
  obtain ⟨m3, e1, e2, e3⟩ := rr_place (l := 0) (a := g_lf g) (b := g_rg g) d2 hu (by decide)
  rw [show nI 0 = 0 from rfl] at e1
  have F3 : fs (fun r k => 19 ≤ r ∧ r ≤ 27) m m3 := fs_tr (fs_le F1 (fun r k z => by omega)) (fs_tr (fs_le d3 QH_P) (fs_le e3 QH_P))
  have R3 : RR (plc (nop (c_be_ s (up1 (c_be s) (c_cp s) 2)) (c_cp s) 0) (c_cp s) 0 (g_lf g) (g_rg g)) m3 := RR_P h e2 F3 (fun r k z => z) (by simp only [SEr, nop, plc, C_n_n, C_n_nm, C_n_bt, C_n_be, C_n_ld, C_n_hs, C_n_kl, C_n_ol, C_n_pr, C_n_dr, C_n_ev, C_n_na, C_n_ak, C_n_ms, C_n_ck, C_n_cp, C_n_cu, C_n_cb, C_n_bg, C_nm_n, C_nm_nm, C_nm_bt, C_nm_be, C_nm_ld, C_nm_hs, C_nm_kl, C_nm_ol, C_nm_pr, C_nm_dr, C_nm_ev, C_nm_na, C_nm_ak, C_nm_ms, C_nm_ck, C_nm_cp, C_nm_cu, C_nm_cb, C_nm_bg, C_bt_n, C_bt_nm, C_bt_bt, C_bt_be, C_bt_ld, C_bt_hs, C_bt_kl, C_bt_ol, C_bt_pr, C_bt_dr, C_bt_ev, C_bt_na, C_bt_ak, C_bt_ms, C_bt_ck, C_bt_cp, C_bt_cu, C_bt_cb, C_bt_bg, C_be_n, C_be_nm, C_be_bt, C_be_be, C_be_ld, C_be_hs, C_be_kl, C_be_ol, C_be_pr, C_be_dr, C_be_ev, C_be_na, C_be_ak, C_be_ms, C_be_ck, C_be_cp, C_be_cu, C_be_cb, C_be_bg, C_ld_n, C_ld_nm, C_ld_bt, C_ld_be, C_ld_ld, C_ld_hs, C_ld_kl, C_ld_ol, C_ld_pr, C_ld_dr, C_ld_ev, C_ld_na, C_ld_ak, C_ld_ms, C_ld_ck, C_ld_cp, C_ld_cu, C_ld_cb, C_ld_bg, C_hs_n, C_hs_nm, C_hs_bt, C_hs_be, C_hs_ld, C_hs_hs, C_hs_kl, C_hs_ol, C_hs_pr, C_hs_dr, C_hs_ev, C_hs_na, C_hs_ak, C_hs_ms, C_hs_ck, C_hs_cp, C_hs_cu, C_hs_cb, C_hs_bg, C_kl_n, C_kl_nm, C_kl_bt, C_kl_be, C_kl_ld, C_kl_hs, C_kl_kl, C_kl_ol, C_kl_pr, C_kl_dr, C_kl_ev, C_kl_na, C_kl_ak, C_kl_ms, C_kl_ck, C_kl_cp, C_kl_cu, C_kl_cb, C_kl_bg, C_ol_n, C_ol_nm, C_ol_bt, C_ol_be, C_ol_ld, C_ol_hs, C_ol_kl, C_ol_ol, C_ol_pr, C_ol_dr, C_ol_ev, C_ol_na, C_ol_ak, C_ol_ms, C_ol_ck, C_ol_cp, C_ol_cu, C_ol_cb, C_ol_bg, C_pr_n, C_pr_nm, C_pr_bt, C_pr_be, C_pr_ld, C_pr_hs, C_pr_kl, C_pr_ol, C_pr_pr, C_pr_dr, C_pr_ev, C_pr_na, C_pr_ak, C_pr_ms, C_pr_ck, C_pr_cp, C_pr_cu, C_pr_cb, C_pr_bg, C_dr_n, C_dr_nm, C_dr_bt, C_dr_be, C_dr_ld, C_dr_hs, C_dr_kl, C_dr_ol, C_dr_pr, C_dr_dr, C_dr_ev, C_dr_na, C_dr_ak, C_dr_ms, C_dr_ck, C_dr_cp, C_dr_cu, C_dr_cb, C_dr_bg, C_ev_n, C_ev_nm, C_ev_bt, C_ev_be, C_ev_ld, C_ev_hs, C_ev_kl, C_ev_ol, C_ev_pr, C_ev_dr, C_ev_ev, C_ev_na, C_ev_ak, C_ev_ms, C_ev_ck, C_ev_cp, C_ev_cu, C_ev_cb, C_ev_bg, C_na_n, C_na_nm, C_na_bt, C_na_be, C_na_ld, C_na_hs, C_na_kl, C_na_ol, C_na_pr, C_na_dr, C_na_ev, C_na_na, C_na_ak, C_na_ms, C_na_ck, C_na_cp, C_na_cu, C_na_cb, C_na_bg, C_ak_n, C_ak_nm, C_ak_bt, C_ak_be, C_ak_ld, C_ak_hs, C_ak_kl, C_ak_ol, C_ak_pr, C_ak_dr, C_ak_ev, C_ak_na, C_ak_ak, C_ak_ms, C_ak_ck, C_ak_cp, C_ak_cu, C_ak_cb, C_ak_bg, C_ms_n, C_ms_nm, C_ms_bt, C_ms_be, C_ms_ld, C_ms_hs, C_ms_kl, C_ms_ol, C_ms_pr, C_ms_dr, C_ms_ev, C_ms_na, C_ms_ak, C_ms_ms, C_ms_ck, C_ms_cp, C_ms_cu, C_ms_cb, C_ms_bg, C_ck_n, C_ck_nm, C_ck_bt, C_ck_be, C_ck_ld, C_ck_hs, C_ck_kl, C_ck_ol, C_ck_pr, C_ck_dr, C_ck_ev, C_ck_na, C_ck_ak, C_ck_ms, C_ck_ck, C_ck_cp, C_ck_cu, C_ck_cb, C_ck_bg, C_cp_n, C_cp_nm, C_cp_bt, C_cp_be, C_cp_ld, C_cp_hs, C_cp_kl, C_cp_ol, C_cp_pr, C_cp_dr, C_cp_ev, C_cp_na, C_cp_ak, C_cp_ms, C_cp_ck, C_cp_cp, C_cp_cu, C_cp_cb, C_cp_bg, C_cu_n, C_cu_nm, C_cu_bt, C_cu_be, C_cu_ld, C_cu_hs, C_cu_kl, C_cu_ol, C_cu_pr, C_cu_dr, C_cu_ev, C_cu_na, C_cu_ak, C_cu_ms, C_cu_ck, C_cu_cp, C_cu_cu, C_cu_cb, C_cu_bg, C_cb_n, C_cb_nm, C_cb_bt, C_cb_be, C_cb_ld, C_cb_hs, C_cb_kl, C_cb_ol, C_cb_pr, C_cb_dr, C_cb_ev, C_cb_na, C_cb_ak, C_cb_ms, C_cb_ck, C_cb_cp, C_cb_cu, C_cb_cb, C_cb_bg, C_bg_n, C_bg_nm, C_bg_bt, C_bg_be, C_bg_ld, C_bg_hs, C_bg_kl, C_bg_ol, C_bg_pr, C_bg_dr, C_bg_ev, C_bg_na, C_bg_ak, C_bg_ms, C_bg_ck, C_bg_cp, C_bg_cu, C_bg_cb, C_bg_bg, and_self])
  have C3 : CLs (plc (nop (c_be_ s (up1 (c_be s) (c_cp s) 2)) (c_cp s) 0) (c_cp s) 0 (g_lf g) (g_rg g)) := cl_plc (cl_nop (s := c_be_ s (up1 (c_be s) (c_cp s) 2)) hc _ _) hlf hrg
  have q3 : c_n (plc (nop (c_be_ s (up1 (c_be s) (c_cp s) 2)) (c_cp s) 0) (c_cp s) 0 (g_lf g) (g_rg g)) = c_n s ∧ c_pr (plc (nop (c_be_ s (up1 (c_be s) (c_cp s) 2)) (c_cp s) 0) (c_cp s) 0 (g_lf g) (g_rg g)) = c_pr s ∧ c_bg (plc (nop (c_be_ s (up1 (c_be s) (c_cp s) 2)) (c_cp s) 0) (c_cp s) 0 (g_lf g) (g_rg g)) = c_bg s ∧ c_ms (plc (nop (c_be_ s (up1 (c_be s) (c_cp s) 2)) (c_cp s) 0) (c_cp s) 0 (g_lf g) (g_rg g)) = c_ms s ∧ c_cp (plc (nop (c_be_ s (up1 (c_be s) (c_cp s) 2)) (c_cp s) 0) (c_cp s) 0 (g_lf g) (g_rg g)) = c_cp s := by
    simp only [plc, nop, C_n_n, C_n_nm, C_n_bt, C_n_be, C_n_ld, C_n_hs, C_n_kl, C_n_ol, C_n_pr, C_n_dr, C_n_ev, C_n_na, C_n_ak, C_n_ms, C_n_ck, C_n_cp, C_n_cu, C_n_cb, C_n_bg, C_nm_n, C_nm_nm, C_nm_bt, C_nm_be, C_nm_ld, C_nm_hs, C_nm_kl, C_nm_ol, C_nm_pr, C_nm_dr, C_nm_ev, C_nm_na, C_nm_ak, C_nm_ms, C_nm_ck, C_nm_cp, C_nm_cu, C_nm_cb, C_nm_bg, C_bt_n, C_bt_nm, C_bt_bt, C_bt_be, C_bt_ld, C_bt_hs, C_bt_kl, C_bt_ol, C_bt_pr, C_bt_dr, C_bt_ev, C_bt_na, C_bt_ak, C_bt_ms, C_bt_ck, C_bt_cp, C_bt_cu, C_bt_cb, C_bt_bg, C_be_n, C_be_nm, C_be_bt, C_be_be, C_be_ld, C_be_hs, C_be_kl, C_be_ol, C_be_pr, C_be_dr, C_be_ev, C_be_na, C_be_ak, C_be_ms, C_be_ck, C_be_cp, C_be_cu, C_be_cb, C_be_bg, C_ld_n, C_ld_nm, C_ld_bt, C_ld_be, C_ld_ld, C_ld_hs, C_ld_kl, C_ld_ol, C_ld_pr, C_ld_dr, C_ld_ev, C_ld_na, C_ld_ak, C_ld_ms, C_ld_ck, C_ld_cp, C_ld_cu, C_ld_cb, C_ld_bg, C_hs_n, C_hs_nm, C_hs_bt, C_hs_be, C_hs_ld, C_hs_hs, C_hs_kl, C_hs_ol, C_hs_pr, C_hs_dr, C_hs_ev, C_hs_na, C_hs_ak, C_hs_ms, C_hs_ck, C_hs_cp, C_hs_cu, C_hs_cb, C_hs_bg, C_kl_n, C_kl_nm, C_kl_bt, C_kl_be, C_kl_ld, C_kl_hs, C_kl_kl, C_kl_ol, C_kl_pr, C_kl_dr, C_kl_ev, C_kl_na, C_kl_ak, C_kl_ms, C_kl_ck, C_kl_cp, C_kl_cu, C_kl_cb, C_kl_bg, C_ol_n, C_ol_nm, C_ol_bt, C_ol_be, C_ol_ld, C_ol_hs, C_ol_kl, C_ol_ol, C_ol_pr, C_ol_dr, C_ol_ev, C_ol_na, C_ol_ak, C_ol_ms, C_ol_ck, C_ol_cp, C_ol_cu, C_ol_cb, C_ol_bg, C_pr_n, C_pr_nm, C_pr_bt, C_pr_be, C_pr_ld, C_pr_hs, C_pr_kl, C_pr_ol, C_pr_pr, C_pr_dr, C_pr_ev, C_pr_na, C_pr_ak, C_pr_ms, C_pr_ck, C_pr_cp, C_pr_cu, C_pr_cb, C_pr_bg, C_dr_n, C_dr_nm, C_dr_bt, C_dr_be, C_dr_ld, C_dr_hs, C_dr_kl, C_dr_ol, C_dr_pr, C_dr_dr, C_dr_ev, C_dr_na, C_dr_ak, C_dr_ms, C_dr_ck, C_dr_cp, C_dr_cu, C_dr_cb, C_dr_bg, C_ev_n, C_ev_nm, C_ev_bt, C_ev_be, C_ev_ld, C_ev_hs, C_ev_kl, C_ev_ol, C_ev_pr, C_ev_dr, C_ev_ev, C_ev_na, C_ev_ak, C_ev_ms, C_ev_ck, C_ev_cp, C_ev_cu, C_ev_cb, C_ev_bg, C_na_n, C_na_nm, C_na_bt, C_na_be, C_na_ld, C_na_hs, C_na_kl, C_na_ol, C_na_pr, C_na_dr, C_na_ev, C_na_na, C_na_ak, C_na_ms, C_na_ck, C_na_cp, C_na_cu, C_na_cb, C_na_bg, C_ak_n, C_ak_nm, C_ak_bt, C_ak_be, C_ak_ld, C_ak_hs, C_ak_kl, C_ak_ol, C_ak_pr, C_ak_dr, C_ak_ev, C_ak_na, C_ak_ak, C_ak_ms, C_ak_ck, C_ak_cp, C_ak_cu, C_ak_cb, C_ak_bg, C_ms_n, C_ms_nm, C_ms_bt, C_ms_be, C_ms_ld, C_ms_hs, C_ms_kl, C_ms_ol, C_ms_pr, C_ms_dr, C_ms_ev, C_ms_na, C_ms_ak, C_ms_ms, C_ms_ck, C_ms_cp, C_ms_cu, C_ms_cb, C_ms_bg, C_ck_n, C_ck_nm, C_ck_bt, C_ck_be, C_ck_ld, C_ck_hs, C_ck_kl, C_ck_ol, C_ck_pr, C_ck_dr, C_ck_ev, C_ck_na, C_ck_ak, C_ck_ms, C_ck_ck, C_ck_cp, C_ck_cu, C_ck_cb, C_ck_bg, C_cp_n, C_cp_nm, C_cp_bt, C_cp_be, C_cp_ld, C_cp_hs, C_cp_kl, C_cp_ol, C_cp_pr, C_cp_dr, C_cp_ev, C_cp_na, C_cp_ak, C_cp_ms, C_cp_ck, C_cp_cp, C_cp_cu, C_cp_cb, C_cp_bg, C_cu_n, C_cu_nm, C_cu_bt, C_cu_be, C_cu_ld, C_cu_hs, C_cu_kl, C_cu_ol, C_cu_pr, C_cu_dr, C_cu_ev, C_cu_na, C_cu_ak, C_cu_ms, C_cu_ck, C_cu_cp, C_cu_cu, C_cu_cb, C_cu_bg, C_cb_n, C_cb_nm, C_cb_bt, C_cb_be, C_cb_ld, C_cb_hs, C_cb_kl, C_cb_ol, C_cb_pr, C_cb_dr, C_cb_ev, C_cb_na, C_cb_ak, C_cb_ms, C_cb_ck, C_cb_cp, C_cb_cu, C_cb_cb, C_cb_bg, C_bg_n, C_bg_nm, C_bg_bt, C_bg_be, C_bg_ld, C_bg_hs, C_bg_kl, C_bg_ol, C_bg_pr, C_bg_dr, C_bg_ev, C_bg_na, C_bg_ak, C_bg_ms, C_bg_ck, C_bg_cp, C_bg_cu, C_bg_cb, C_bg_bg, and_self]
  generalize plc (nop (c_be_ s (up1 (c_be s) (c_cp s) 2)) (c_cp s) 0) (c_cp s) 0 (g_lf g) (g_rg g) = s3 at *
  obtain ⟨q1, q2, q3, q4, q5⟩ := q3
  have F4 : fs (QB (c_cp s)) m3 (sI m3 28 0 (c_cp s) 0) := fsI (fs_rf _ m3) (Or.inl ⟨rfl, rfl⟩)
  have R4 : RR (c_pr_ s3 (up1 (c_pr s3) (c_cp s) [])) (sI m3 28 0 (c_cp s) 0) := RR_pr R3 ⟨Nat.zero_le _, by rw [mI_sI, if_pos ⟨rfl, rfl, rfl⟩]; rfl, fun j q hj => by simp at hj⟩ F4
  have e0 : c_pr (c_pr_ s3 (up1 (c_pr s3) (c_cp s) [])) (c_cp s) = [] := up1_get _ _ _
  have B4 : BGo B (sI m3 28 0 (c_cp s) 0) := BGo_fs (BGo_fs hB F3 (fun r k z => by omega)) F4 (fun r k z => by unfold QB at z; omega)
  have e5 : c_bg (c_pr_ s3 (up1 (c_pr s3) (c_cp s) [])) = c_bg s := q3
  obtain ⟨m5, f1, f2, f3⟩ := rr_unpack (p := c_cp s) (B := B) R4 (by show c_cp s < c_n s3; rw [q1]; exact hu) B4 (by rw [e0, e5]; exact rel) (by rw [e0, e5]; exact hl) (fun g' hg' => hno g' (by rw [← q4]; exact hg'))
  rw [e0, e5] at f2
  have ef : c_bg_ (c_pr_ (c_pr_ s3 (up1 (c_pr s3) (c_cp s) [])) (up1 (c_pr (c_pr_ s3 (up1 (c_pr s3) (c_cp s) []))) (c_cp s) (inl1 [] (c_bg s)))) [] = c_bg_ (c_pr_ s3 (up1 (c_pr s) (c_cp s) (inl1 [] (c_bg s)))) [] := by
    have : up1 (c_pr (c_pr_ s3 (up1 (c_pr s3) (c_cp s) []))) (c_cp s) (inl1 [] (c_bg s)) = up1 (c_pr s) (c_cp s) (inl1 [] (c_bg s)) := by
      rw [← q2]
      exact up1_up1 (c_pr s3) (c_cp s) [] _
    rw [this]
    rfl
  rw [ef] at f2
  have C5 : CLs (c_bg_ (c_pr_ s3 (up1 (c_pr s) (c_cp s) (inl1 [] (c_bg s)))) []) := C3
  have q6 : c_cp (c_bg_ (c_pr_ s3 (up1 (c_pr s) (c_cp s) (inl1 [] (c_bg s)))) []) = c_cp s := q5
  obtain ⟨m6, j1, j2, j3⟩ := rr_linked (l := 0) f2 C5 (by rw [q6]; show c_cp s < c_n s3; rw [q1]; exact hu) (by decide) (by show (c_ms s3).length + 3 ≤ 192; rw [q4]; exact hlen)
  rw [q6, show nI 0 = 0 from rfl] at j1
  rw [q6] at j2
  refine ⟨m6, fun r hr => ?_, j2, fs_tr (fs_le F3 (fun r k z => Or.inr z.1)) (fs_tr (fs_le F4 QB_W) (fs_tr f3 j3))⟩
  rw [← hr]
  have hx3 := R3.1.1
  have i28 := ixN (FN_28 R3.1.2.1) (i := c_cp s) (by omega) (by decide)
  have f11 := FX_11 hx3
  simp only [s149_118, s149_119, s149_122, s149_123, s149_124, s149_125, s149_126, s149_127, s149_128, s149_131, s149_132, s149_133, s149_134, s149_136, s149_138, s149_141, s149_142, s149_145, s149_146, s149_147, s149_148, s149_149, s149_150, s149_153, s149_154, s149_155, s149_156, s149_159, eq_self, ixk_some, bd_some, nl_n, nl_i, nl_r, Option.toList_some, Option.toList_none, List.cons_append, List.nil_append, FX_2 hx, FX_3 hx, FX_4 hx, FX_5 hx, FX_6 hx, FX_7 hx, FX_8 hx, FX_9 hx, FX_10 hx, FX_11 hx, FX_12 hx, FX_13 hx, FX_15 hx, FX_19 hx, FX_20 hx, FX_21 hx, FX_22 hx, FX_23 hx, FX_24 hx, FX_25 hx, FX_26 hx, FX_27 hx, FX_28 hx, FX_29 hx, FX_31 hx, FX_32 hx, FX_33 hx, FX_34 hx, FX_35 hx, FX_36 hx, FX_37 hx, FX_39 hx, FX_40 hx, i21, d1, e1, f11, i28, f1, j1]
