/-! the class: peer, drawn -/
theorem RC1_fg {s : ST} {m m' : MM} {i : Nat} {Q : Nat → Nat → Prop} (h : RC1 s m i) (hf : fg Q m m') (n6 : ¬ Q 6 i) (n14 : ¬ Q 14 i) (n15 : ¬ Q 15 i) : RC1 s m' i := by
  obtain ⟨g0, g1, g2, g3, g4, g5, g6, g7, g8, g9, g10, g11, g12⟩ := h
  have I := fun x => (hf.1 6 i x n6).1
  have R := fun x => (hf.1 6 i x n6).2.2
  exact ⟨by rw [I]; exact g0, by rw [I]; exact g1, by rw [I]; exact g2, by rw [I]; exact g3, by rw [I]; exact g4,
    by rw [R]; exact g5, by rw [R]; exact g6, by rw [R]; exact g7, by rw [R]; exact g8, by rw [R]; exact g9, by rw [hf.2.1 _ _ n14]; exact g10, by rw [hf.2.1 _ _ n15]; exact g11,
    fun l hl => ⟨by rw [(hf.1 14 i l n14).1]; exact (g12 l hl).1, by rw [(hf.1 15 i _ n15).2.2]; exact (g12 l hl).2.1, by rw [(hf.1 15 i _ n15).2.2]; exact (g12 l hl).2.2⟩⟩
theorem RC1_eq {s s' : ST} {m : MM} {i : Nat} (h : RC1 s m i) (h2 : c_nm s' i = c_nm s i) (h3 : c_bt s' i = c_bt s i) (h4 : c_be s' i = c_be s i) (h5 : c_ld s' i = c_ld s i) (h6 : ∀ l, l < 9 → c_hs s' i l = c_hs s i l) (h7 : ∀ l d, l < 9 → c_kl s' i l d = c_kl s i l d) (h8 : ∀ d, c_ol s' i d = c_ol s i d) : RC1 s' m i := by
  obtain ⟨g0, g1, g2, g3, g4, g5, g6, g7, g8, g9, g10, g11, g12⟩ := h
  refine ⟨g0, by rw [h2]; exact g1, by rw [h3]; exact g2, by rw [h4]; exact g3, by rw [h5]; exact g4, g5, g6, by rw [h8]; exact g7, by rw [h8]; exact g8, g9, g10, g11, fun l hl => ?_⟩
  rw [h6 l hl, h7 l 0 hl, h7 l 1 hl]
  exact g12 l hl
theorem newP_1 {s : ST} {m : MM} {p : Nat} {name b : Int32} (h5 : mC m 5 = p + 1) (h6 : mC m 6 = p) (h14 : mC m 14 = p) (h15 : mC m 15 = p) (e2 : c_nm s p = name) (e3 : c_bt s p = b) (e4 : c_be s p = 0) (e5 : c_ld s p = 0) (e6 : ∀ l, l < 9 → c_hs s p l = false) (e7 : ∀ l d, l < 9 → c_kl s p l d = none) (e8 : ∀ d, c_ol s p d = none) : RC1 s (newP m p name b) p := by
  unfold RC1
  rw [e2, e3, e4, e5, e8, e8]
  unfold newP iniE ini2 iniP ini1
  refine ⟨?_, ?_, ?_, ?_, ?_, ?_, ?_, ?_, ?_, ?_, ?_, ?_, fun l hl => ?_⟩
  all_goals try rw [e6 l hl, e7 l 0 hl, e7 l 1 hl]
  all_goals simp [mI_sI, mI_sR, mI_sL, mI_al, mR_sI, mR_sR, mR_sL, mR_al, mN_sI, mN_sR, mN_sL, mN_al, mC_sI, mC_sR, mC_sL, mC_al, h5, h6, h14, h15, b2, nI_k0]
theorem newP_q {m : MM} {p : Nat} {name b : Int32} (h5 : mC m 5 = p + 1) (h12 : mC m 12 = p + 1) (h13 : mC m 13 = p + 1) : RCl (newP m p name b) (p + 1) [] := by
  unfold newP iniE ini2 iniP ini1 RCl Pok
  refine ⟨⟨?_, ?_, ?_, ?_, ?_, ?_⟩, fun j x hx => by simp at hx⟩
  all_goals simp [mI_sI, mI_sR, mI_sL, mI_al, mR_sI, mR_sR, mR_sL, mR_al, mN_sI, mN_sR, mN_sL, mN_al, mC_sI, mC_sR, mC_sL, mC_al, h5, h12, h13, nI_k0]
theorem made_f (s : ST) (name b : Int32) : c_n (made s name b) = c_n s + 1 ∧ c_nm (made s name b) = up1 (c_nm s) (c_n s) name ∧ c_bt (made s name b) = up1 (c_bt s) (c_n s) b ∧ c_be (made s name b) = up1 (c_be s) (c_n s) 0 ∧ c_ld (made s name b) = up1 (c_ld s) (c_n s) 0 ∧
    c_hs (made s name b) = (fun j l => if j = c_n s ∧ 0 ≤ l ∧ l < 9 then false else c_hs s j l) ∧ c_kl (made s name b) = (fun j l d => if j = c_n s ∧ 0 ≤ l ∧ l < 9 then none else c_kl s j l d) ∧ c_ol (made s name b) = (fun j d => if j = c_n s then none else c_ol s j d) ∧ c_pr (made s name b) = up1 (c_pr s) (c_n s) [] ∧
    c_dr (made s name b) = c_dr s ∧ c_ev (made s name b) = c_ev s ∧ c_na (made s name b) = c_na s ∧ c_ak (made s name b) = c_ak s ∧ c_ms (made s name b) = c_ms s ∧ c_ck (made s name b) = c_ck s ∧ c_cp (made s name b) = c_cp s ∧ c_cu (made s name b) = c_cu s ∧ c_cb (made s name b) = c_cb s ∧ c_bg (made s name b) = c_bg s := by
  simp only [made, nop, c_n_n, c_n_nm, c_n_bt, c_n_be, c_n_ld, c_n_hs, c_n_kl, c_n_ol, c_n_pr, c_n_dr, c_n_ev, c_n_na, c_n_ak, c_n_ms, c_n_ck, c_n_cp, c_n_cu, c_n_cb, c_n_bg, c_nm_n, c_nm_nm, c_nm_bt, c_nm_be, c_nm_ld, c_nm_hs, c_nm_kl, c_nm_ol, c_nm_pr, c_nm_dr, c_nm_ev, c_nm_na, c_nm_ak, c_nm_ms, c_nm_ck, c_nm_cp, c_nm_cu, c_nm_cb, c_nm_bg, c_bt_n, c_bt_nm, c_bt_bt, c_bt_be, c_bt_ld, c_bt_hs, c_bt_kl, c_bt_ol, c_bt_pr, c_bt_dr, c_bt_ev, c_bt_na, c_bt_ak, c_bt_ms, c_bt_ck, c_bt_cp, c_bt_cu, c_bt_cb, c_bt_bg, c_be_n, c_be_nm, c_be_bt, c_be_be, c_be_ld, c_be_hs, c_be_kl, c_be_ol, c_be_pr, c_be_dr, c_be_ev, c_be_na, c_be_ak, c_be_ms, c_be_ck, c_be_cp, c_be_cu, c_be_cb, c_be_bg, c_ld_n, c_ld_nm, c_ld_bt, c_ld_be, c_ld_ld, c_ld_hs, c_ld_kl, c_ld_ol, c_ld_pr, c_ld_dr, c_ld_ev, c_ld_na, c_ld_ak, c_ld_ms, c_ld_ck, c_ld_cp, c_ld_cu, c_ld_cb, c_ld_bg, c_hs_n, c_hs_nm, c_hs_bt, c_hs_be, c_hs_ld, c_hs_hs, c_hs_kl, c_hs_ol, c_hs_pr, c_hs_dr, c_hs_ev, c_hs_na, c_hs_ak, c_hs_ms, c_hs_ck, c_hs_cp, c_hs_cu, c_hs_cb, c_hs_bg, c_kl_n, c_kl_nm, c_kl_bt, c_kl_be, c_kl_ld, c_kl_hs, c_kl_kl, c_kl_ol, c_kl_pr, c_kl_dr, c_kl_ev, c_kl_na, c_kl_ak, c_kl_ms, c_kl_ck, c_kl_cp, c_kl_cu, c_kl_cb, c_kl_bg, c_ol_n, c_ol_nm, c_ol_bt, c_ol_be, c_ol_ld, c_ol_hs, c_ol_kl, c_ol_ol, c_ol_pr, c_ol_dr, c_ol_ev, c_ol_na, c_ol_ak, c_ol_ms, c_ol_ck, c_ol_cp, c_ol_cu, c_ol_cb, c_ol_bg, c_pr_n, c_pr_nm, c_pr_bt, c_pr_be, c_pr_ld, c_pr_hs, c_pr_kl, c_pr_ol, c_pr_pr, c_pr_dr, c_pr_ev, c_pr_na, c_pr_ak, c_pr_ms, c_pr_ck, c_pr_cp, c_pr_cu, c_pr_cb, c_pr_bg, c_dr_n, c_dr_nm, c_dr_bt, c_dr_be, c_dr_ld, c_dr_hs, c_dr_kl, c_dr_ol, c_dr_pr, c_dr_dr, c_dr_ev, c_dr_na, c_dr_ak, c_dr_ms, c_dr_ck, c_dr_cp, c_dr_cu, c_dr_cb, c_dr_bg, c_ev_n, c_ev_nm, c_ev_bt, c_ev_be, c_ev_ld, c_ev_hs, c_ev_kl, c_ev_ol, c_ev_pr, c_ev_dr, c_ev_ev, c_ev_na, c_ev_ak, c_ev_ms, c_ev_ck, c_ev_cp, c_ev_cu, c_ev_cb, c_ev_bg, c_na_n, c_na_nm, c_na_bt, c_na_be, c_na_ld, c_na_hs, c_na_kl, c_na_ol, c_na_pr, c_na_dr, c_na_ev, c_na_na, c_na_ak, c_na_ms, c_na_ck, c_na_cp, c_na_cu, c_na_cb, c_na_bg, c_ak_n, c_ak_nm, c_ak_bt, c_ak_be, c_ak_ld, c_ak_hs, c_ak_kl, c_ak_ol, c_ak_pr, c_ak_dr, c_ak_ev, c_ak_na, c_ak_ak, c_ak_ms, c_ak_ck, c_ak_cp, c_ak_cu, c_ak_cb, c_ak_bg, c_ms_n, c_ms_nm, c_ms_bt, c_ms_be, c_ms_ld, c_ms_hs, c_ms_kl, c_ms_ol, c_ms_pr, c_ms_dr, c_ms_ev, c_ms_na, c_ms_ak, c_ms_ms, c_ms_ck, c_ms_cp, c_ms_cu, c_ms_cb, c_ms_bg, c_ck_n, c_ck_nm, c_ck_bt, c_ck_be, c_ck_ld, c_ck_hs, c_ck_kl, c_ck_ol, c_ck_pr, c_ck_dr, c_ck_ev, c_ck_na, c_ck_ak, c_ck_ms, c_ck_ck, c_ck_cp, c_ck_cu, c_ck_cb, c_ck_bg, c_cp_n, c_cp_nm, c_cp_bt, c_cp_be, c_cp_ld, c_cp_hs, c_cp_kl, c_cp_ol, c_cp_pr, c_cp_dr, c_cp_ev, c_cp_na, c_cp_ak, c_cp_ms, c_cp_ck, c_cp_cp, c_cp_cu, c_cp_cb, c_cp_bg, c_cu_n, c_cu_nm, c_cu_bt, c_cu_be, c_cu_ld, c_cu_hs, c_cu_kl, c_cu_ol, c_cu_pr, c_cu_dr, c_cu_ev, c_cu_na, c_cu_ak, c_cu_ms, c_cu_ck, c_cu_cp, c_cu_cu, c_cu_cb, c_cu_bg, c_cb_n, c_cb_nm, c_cb_bt, c_cb_be, c_cb_ld, c_cb_hs, c_cb_kl, c_cb_ol, c_cb_pr, c_cb_dr, c_cb_ev, c_cb_na, c_cb_ak, c_cb_ms, c_cb_ck, c_cb_cp, c_cb_cu, c_cb_cb, c_cb_bg, c_bg_n, c_bg_nm, c_bg_bt, c_bg_be, c_bg_ld, c_bg_hs, c_bg_kl, c_bg_ol, c_bg_pr, c_bg_dr, c_bg_ev, c_bg_na, c_bg_ak, c_bg_ms, c_bg_ck, c_bg_cp, c_bg_cu, c_bg_cb, c_bg_bg, and_self]
theorem RC_made {s : ST} {m : MM} {name b : Int32} (h : RC s m) (hn : c_n s < 32) : RC (made s name b) (sI (newP m (c_n s) name b) 7 0 1 (nI (c_n s + 1))) := by
  obtain ⟨h1, h2, h3, h4, h5, h6, h7, h8⟩ := h
  obtain ⟨n1, n2, n3, n4, n5, n6, n7, n8, n9⟩ := h8
  obtain ⟨e1, e2, e3, e4, e5, e6, e7, e8, e9, e10, e11, e12, e13, e14, e15, e16, e17, e18, e19⟩ := made_f s name b
  have F := newP_fg (name := name) (b := b) n1 n2 n3 n4 n5 n6
  have P1 := newP_1 (s := made s name b) (name := name) (b := b) n1 n2 n5 n6 (by rw [e2]; exact up1_get _ _ _) (by rw [e3]; exact up1_get _ _ _) (by rw [e4]; exact up1_get _ _ _) (by rw [e5]; exact up1_get _ _ _) (fun l hl => by rw [e6]; exact if_pos ⟨rfl, Nat.zero_le _, hl⟩) (fun l d hl => by rw [e7]; exact if_pos ⟨rfl, Nat.zero_le _, hl⟩) (fun d => by rw [e8]; exact if_pos rfl)
  have PQ := newP_q (name := name) (b := b) n1 n3 n4
  have C : ∀ r, mC (newP m (c_n s) name b) r = if r = 13 then mC m 13 + 1 else if r = 12 then mC m 12 + 1 else if r = 5 then mC m 5 + 1 else if r = 15 then mC m 15 + 1 else if r = 14 then mC m 14 + 1 else if r = 6 then mC m 6 + 1 else mC m r := fun r => rfl
  have N16 : mN (newP m (c_n s) name b) 16 0 = mN m 16 0 := rfl
  have R16 : ∀ i, mR (newP m (c_n s) name b) 16 0 i = if i = c_n s then some (c_n s) else mR m 16 0 i := by
    intro i
    show (if 16 = 16 ∧ 0 = 0 ∧ i = c_n s then some (c_n s) else mR m 16 0 i) = _
    by_cases e : i = c_n s <;> simp [e]
  have X7 : ∀ k, mI (newP m (c_n s) name b) 7 0 k = mI m 7 0 k ∧ mR (newP m (c_n s) name b) 7 0 k = mR m 7 0 k := fun k => ⟨rfl, rfl⟩
  generalize newP m (c_n s) name b = m1 at *
  have q : ∀ r n, ((((r = 6 ∨ r = 14 ∨ r = 15) ∧ n = c_n s) ∨ ((r = 5 ∨ r = 12 ∨ r = 13) ∧ n = c_n s + 1) ∨ r = 16)) → r = 6 ∨ r = 14 ∨ r = 15 ∨ r = 5 ∨ r = 12 ∨ r = 13 ∨ r = 16 := fun r n z => by omega
  have p2 := RCc_fg h2 F (fun r n z => by have := q r n z; omega)
  have p3 := RCk_fg h3 F (fun r n z => by have := q r n z; omega)
  have p4 := RCa_fg h4 F (fun r n z => by have := q r n z; omega)
  have p5 := RCm_fg h5 F (fun r n z => by have := q r n z; omega)
  have p7 := RCs_fg h7 F (fun r n z => by have := q r n z; omega)
  refine ⟨?_, ?_, ?_, ?_, ?_, ?_, ?_, ?_⟩
  · obtain ⟨k1, k2, k3, k4, k5, k6, k7⟩ := h1
    unfold RCp
    rw [e1]
    refine ⟨by omega, rfl, (X7 0).2.trans k3, N16.trans k4, fun i hi => ?_, fun i hi => ?_, fun i hi => ?_⟩
    · show mR m1 16 0 i = some i
      rw [R16]
      by_cases e : i = c_n s
      · rw [if_pos e, e]
      · rw [if_neg e]; exact k5 i (by omega)
    · rw [e4]
      unfold up1
      by_cases e : i = c_n s
      · rw [if_pos e]; omega
      · rw [if_neg e]; exact k6 i (by omega)
    · show RC1 (made s name b) m1 i
      by_cases e : i = c_n s
      · rw [e]; exact P1
      · refine RC1_eq (RC1_fg (k7 i (by omega)) F (fun z => by omega) (fun z => by omega) (fun z => by omega)) ?_ ?_ ?_ ?_ (fun l hl => ?_) (fun l d hl => ?_) (fun d => ?_)
        · rw [e2]; exact if_neg e
        · rw [e3]; exact if_neg e
        · rw [e4]; exact if_neg e
        · rw [e5]; exact if_neg e
        · rw [e6]; exact if_neg (fun z => e z.1)
        · rw [e7]; exact if_neg (fun z => e z.1)
        · rw [e8]; exact if_neg e
  · unfold RCc
    rw [e15, e16, e17, e18]
    exact p2
  · unfold RCk
    rw [e10, e11]
    exact p3
  · unfold RCa
    rw [e12, e13]
    exact p4
  · unfold RCm chM
    rw [e14]
    exact p5
  · unfold RCq
    rw [e1, e9, e19]
    have other : ∀ j L, j ≠ c_n s + 1 → RCl m j L → RCl m1 j L := by
      intro j L hj hL
      obtain ⟨⟨g1, g2, g3, g4, g5, g6⟩, g7⟩ := hL
      have n : ∀ r, r ≠ 6 → r ≠ 14 → r ≠ 15 → r ≠ 16 → ¬ ((((r = 6 ∨ r = 14 ∨ r = 15) ∧ j = c_n s) ∨ ((r = 5 ∨ r = 12 ∨ r = 13) ∧ j = c_n s + 1) ∨ r = 16)) := fun r a b c d z => by omega
      have x5 := n 5 (by decide) (by decide) (by decide) (by decide)
      have x12 := n 12 (by decide) (by decide) (by decide) (by decide)
      have x13 := n 13 (by decide) (by decide) (by decide) (by decide)
      refine ⟨⟨by rw [(F.1 5 j 0 x5).2.2]; exact g1, by rw [(F.1 5 j 1 x5).2.2]; exact g2, by rw [(F.1 5 j 2 x5).1]; exact g3, g4, by rw [F.2.1 _ _ x12]; exact g5, by rw [F.2.1 _ _ x13]; exact g6⟩, fun k x hx => ?_⟩
      rw [(F.1 12 j k x12).1, (F.1 13 j k x13).2.1]
      exact g7 k x hx
    refine ⟨other 0 _ (by omega) h6.1, fun i hi => ?_⟩
    show RCl m1 (i + 1) (up1 (c_pr s) (c_n s) [] i)
    by_cases e : i = c_n s
    · rw [e, up1_get]; exact PQ
    · rw [show up1 (c_pr s) (c_n s) [] i = c_pr s i from if_neg e]
      exact other (i + 1) _ (by omega) (h6.2 i (by omega))
  · unfold RCs
    rw [e14]
    exact p7
  · unfold RCn
    rw [e1, e12]
    exact ⟨(C 5).trans (show mC m 5 + 1 = _ by rw [n1]), (C 6).trans (show mC m 6 + 1 = _ by rw [n2]), (C 12).trans (show mC m 12 + 1 = _ by rw [n3]), (C 13).trans (show mC m 13 + 1 = _ by rw [n4]), (C 14).trans (show mC m 14 + 1 = _ by rw [n5]), (C 15).trans (show mC m 15 + 1 = _ by rw [n6]), (C 1).trans n7, (C 9).trans n8, (C 10).trans n9⟩
theorem go_addPeer {s : ST} {m : MM} {name b : Int32} (h : RC s m) : ∃ m', go 41 0 [some (vr 7 (some 0)), some (vi name), some (vi b)] [] m = some (some (vi (if c_n s = 32 then -3 else nI (c_n s))), m') ∧ RC (if c_n s = 32 then s else made s name b) m' ∧ fg QZ m m' := by
  obtain ⟨k1, k2, k3, k4, k5, k6, k7⟩ := h.1
  have e32 : (32 : Int32) = nI 32 := rfl
  by_cases hn : c_n s = 32
  · rw [if_pos hn, if_pos hn]
    refine ⟨m, ?_, h, fg_rf _ _⟩
    simp only [s41_0, s41_1, s41_4, s41_6, eq_self, ixk_some, bd_some, nl_n, nl_i, nl_r, Option.toList_some, Option.toList_none, List.cons_append, List.nil_append, k2]
    rw [e32, if_neg (nI_nlt (by omega) (by omega))]
    simp only [s41_9, s41_11, eq_self, ixk_some, bd_some, nl_n, nl_i, nl_r, Option.toList_some, Option.toList_none, List.cons_append, List.nil_append]
  · rw [if_neg hn, if_neg hn]
    have hlt : c_n s < 32 := by omega
    obtain ⟨n1, n2, n3, n4, n5, n6, n7, n8, n9⟩ := h.2.2.2.2.2.2.2
    refine ⟨_, ?_, RC_made h hlt, fg_tr (fg_le (newP_fg n1 n2 n3 n4 n5 n6) (fun r n z => ⟨by omega, by omega, by omega⟩)) (fg_sI _ _ ⟨by decide, by decide, by decide⟩)⟩
    simp only [s41_0, s41_1, s41_4, s41_6, eq_self, ixk_some, bd_some, nl_n, nl_i, nl_r, Option.toList_some, Option.toList_none, List.cons_append, List.nil_append, k2]
    rw [e32, if_pos (nI_lt hlt (by omega))]
    have i1 := go_initPeer (m := al m 6 0 10) (p := c_n s) (x := nI (c_n s)) (name := name) (b := b)
    have x1 : mI (al m 6 0 10) 7 0 1 = nI (c_n s) := k2
    have hix := ix_nI (i := c_n s) (n := mN (iniE (al m 6 0 10) (c_n s) (nI (c_n s)) name b) 16 0) (by show c_n s < mN m 16 0; rw [k4]; exact hlt) (by show mN m 16 0 < _; rw [k4]; decide)
    have x2 : mI (newP m (c_n s) name b) 7 0 1 = nI (c_n s) := k2
    have s1 : nI (c_n s) + 1 = nI (c_n s + 1) := nI_1 _
    have s2 : nI (c_n s + 1) - 1 = nI (c_n s) := by rw [← s1]; simp
    have x3 : mI (sI (newP m (c_n s) name b) 7 0 1 (nI (c_n s + 1))) 7 0 1 = nI (c_n s + 1) := rfl
    have ed : sR (iniE (al m 6 0 10) (c_n s) (nI (c_n s)) name b) 16 0 (c_n s) (some (c_n s)) = newP m (c_n s) name b := rfl
    simp only [s41_12, s41_13, s41_16, s41_17, s41_20, s41_23, s41_24, s41_25, s41_28, s41_29, eq_self, ixk_some, bd_some, nl_n, nl_i, nl_r, Option.toList_some, Option.toList_none, List.cons_append, List.nil_append, k3, k2, n2, x1]
    rw [s41_30, i1]
    simp only [s41_0, s41_1, s41_4, s41_6, s41_9, s41_11, s41_12, s41_13, s41_16, s41_17, s41_20, s41_23, s41_24, s41_25, s41_28, s41_29, s41_33r, s41_33n, s41_34, s41_35, s41_36, s41_39, s41_40, s41_41, s41_44, s41_45, s41_48, s41_49, s41_50, eq_self, ixk_some, bd_some, nl_n, nl_i, nl_r, Option.toList_some, Option.toList_none, List.cons_append, List.nil_append, hix, x2, s1, ed, x3, s2]
theorem ST_ext {s t : ST} (h1 : c_n s = c_n t) (h2 : c_nm s = c_nm t) (h3 : c_bt s = c_bt t) (h4 : c_be s = c_be t) (h5 : c_ld s = c_ld t) (h6 : c_hs s = c_hs t) (h7 : c_kl s = c_kl t) (h8 : c_ol s = c_ol t) (h9 : c_pr s = c_pr t) (h10 : c_dr s = c_dr t) (h11 : c_ev s = c_ev t) (h12 : c_na s = c_na t) (h13 : c_ak s = c_ak t) (h14 : c_ms s = c_ms t) (h15 : c_ck s = c_ck t) (h16 : c_cp s = c_cp t) (h17 : c_cu s = c_cu t) (h18 : c_cb s = c_cb t) (h19 : c_bg s = c_bg t) : s = t := by
  obtain ⟨a1, a2, a3, a4, a5, a6, a7, a8, a9, a10, a11, a12, a13, a14, a15, a16, a17, a18, a19⟩ := s
  obtain ⟨b1, b2, b3, b4, b5, b6, b7, b8, b9, b10, b11, b12, b13, b14, b15, b16, b17, b18, b19⟩ := t
  simp only [c_n, c_nm, c_bt, c_be, c_ld, c_hs, c_kl, c_ol, c_pr, c_dr, c_ev, c_na, c_ak, c_ms, c_ck, c_cp, c_cu, c_cb, c_bg] at h1 h2 h3 h4 h5 h6 h7 h8 h9 h10 h11 h12 h13 h14 h15 h16 h17 h18 h19
  rw [h1, h2, h3, h4, h5, h6, h7, h8, h9, h10, h11, h12, h13, h14, h15, h16, h17, h18, h19]
theorem go_peer {s : ST} {m : MM} {name b : Int32} (h : RC s m) : ∃ m', go 38 0 [some (vr 7 (some 0)), some (vi name), some (vi b)] [] m = some (some (vi (o_peer s name b).1), m') ∧ RC (o_peer s name b).2 m' ∧ fg QZ m m' := by
  have a1 := go_isNamed (name := name) h.1
  unfold o_peer
  by_cases hb : 0 ≤ b ∧ b ≤ 255
  · have b1 : ¬ b < 0 := i_nlt.mpr hb.1
    have b2' : ¬ (255 : Int32) < b := i_nlt.mpr hb.2
    cases hi : isNm s name
    · rw [hi, b2_f] at a1
      obtain ⟨m1, c1, c2, c3⟩ := go_addPeer (name := name) (b := b) h
      rw [if_neg (by simp [hb])]
      by_cases hn : c_n s = 32
      · rw [if_pos hn] at c1 c2 ⊢
        refine ⟨m1, ?_, c2, c3⟩
        simp only [s38_0, s38_1, s38_4, s38_5, s38_8, s38_11, s38_12, s38_13, s38_16, s38_19, s38_20, s38_21, s38_22, s38_23, s38_24, s38_27, eq_self, ixk_some, bd_some, nl_n, nl_i, nl_r, Option.toList_some, Option.toList_none, List.cons_append, List.nil_append, if_neg b1, if_neg b2', a1]
        simp [c1, s38_0, s38_1, s38_4, s38_5, s38_8, s38_11, s38_12, s38_13, s38_16, s38_19, s38_20, s38_21, s38_22, s38_23, s38_24, s38_27, eq_self, ixk_some, bd_some, nl_n, nl_i, nl_r, Option.toList_some, Option.toList_none, List.cons_append, List.nil_append]
      · rw [if_neg hn] at c1 c2 ⊢
        refine ⟨m1, ?_, c2, c3⟩
        simp only [s38_0, s38_1, s38_4, s38_5, s38_8, s38_11, s38_12, s38_13, s38_16, s38_19, s38_20, s38_21, s38_22, s38_23, s38_24, s38_27, eq_self, ixk_some, bd_some, nl_n, nl_i, nl_r, Option.toList_some, Option.toList_none, List.cons_append, List.nil_append, if_neg b1, if_neg b2', a1]
        simp [c1, s38_0, s38_1, s38_4, s38_5, s38_8, s38_11, s38_12, s38_13, s38_16, s38_19, s38_20, s38_21, s38_22, s38_23, s38_24, s38_27, eq_self, ixk_some, bd_some, nl_n, nl_i, nl_r, Option.toList_some, Option.toList_none, List.cons_append, List.nil_append]
    · rw [hi, b2_t] at a1
      rw [if_pos (Or.inl rfl)]
      refine ⟨m, ?_, h, fg_rf _ _⟩
      simp only [s38_0, s38_1, s38_4, s38_5, s38_8, s38_11, s38_12, s38_13, s38_16, s38_19, s38_20, s38_21, s38_22, s38_23, s38_24, s38_27, eq_self, ixk_some, bd_some, nl_n, nl_i, nl_r, Option.toList_some, Option.toList_none, List.cons_append, List.nil_append, if_neg b1, if_neg b2', a1]
      simp
  · rw [if_pos (Or.inr hb)]
    refine ⟨m, ?_, h, fg_rf _ _⟩
    by_cases b1 : b < 0
    · simp only [s38_0, s38_1, s38_19, s38_20, eq_self, ixk_some, bd_some, nl_n, nl_i, nl_r, Option.toList_some, Option.toList_none, List.cons_append, List.nil_append, if_pos b1]
    · have b2' : (255 : Int32) < b := i_nle.mp (fun z => hb ⟨i_nlt.mp b1, z⟩)
      simp only [s38_0, s38_1, s38_4, s38_5, s38_8, s38_19, s38_20, eq_self, ixk_some, bd_some, nl_n, nl_i, nl_r, Option.toList_some, Option.toList_none, List.cons_append, List.nil_append, if_neg b1, if_pos b2']
theorem RC_dr {s : ST} {m : MM} {v : Int32} (h : RC s m) : RC (c_dr_ s v) (sI m 7 0 8 v) := by
  obtain ⟨h1, h2, h3, h4, h5, h6, h7, h8⟩ := h
  refine ⟨h1, h2, ?_, h4, h5, h6, h7, h8⟩
  obtain ⟨k1, k2, k3, k4, k5, k6⟩ := h3
  exact ⟨k1, k2, k3, k4, k5, rfl⟩
theorem made_dr (s : ST) (d name b : Int32) : made (c_dr_ s d) name b = c_dr_ (made s name b) d := by
  apply ST_ext <;> first | (simp only [made, nop, c_n_n, c_n_nm, c_n_bt, c_n_be, c_n_ld, c_n_hs, c_n_kl, c_n_ol, c_n_pr, c_n_dr, c_n_ev, c_n_na, c_n_ak, c_n_ms, c_n_ck, c_n_cp, c_n_cu, c_n_cb, c_n_bg, c_nm_n, c_nm_nm, c_nm_bt, c_nm_be, c_nm_ld, c_nm_hs, c_nm_kl, c_nm_ol, c_nm_pr, c_nm_dr, c_nm_ev, c_nm_na, c_nm_ak, c_nm_ms, c_nm_ck, c_nm_cp, c_nm_cu, c_nm_cb, c_nm_bg, c_bt_n, c_bt_nm, c_bt_bt, c_bt_be, c_bt_ld, c_bt_hs, c_bt_kl, c_bt_ol, c_bt_pr, c_bt_dr, c_bt_ev, c_bt_na, c_bt_ak, c_bt_ms, c_bt_ck, c_bt_cp, c_bt_cu, c_bt_cb, c_bt_bg, c_be_n, c_be_nm, c_be_bt, c_be_be, c_be_ld, c_be_hs, c_be_kl, c_be_ol, c_be_pr, c_be_dr, c_be_ev, c_be_na, c_be_ak, c_be_ms, c_be_ck, c_be_cp, c_be_cu, c_be_cb, c_be_bg, c_ld_n, c_ld_nm, c_ld_bt, c_ld_be, c_ld_ld, c_ld_hs, c_ld_kl, c_ld_ol, c_ld_pr, c_ld_dr, c_ld_ev, c_ld_na, c_ld_ak, c_ld_ms, c_ld_ck, c_ld_cp, c_ld_cu, c_ld_cb, c_ld_bg, c_hs_n, c_hs_nm, c_hs_bt, c_hs_be, c_hs_ld, c_hs_hs, c_hs_kl, c_hs_ol, c_hs_pr, c_hs_dr, c_hs_ev, c_hs_na, c_hs_ak, c_hs_ms, c_hs_ck, c_hs_cp, c_hs_cu, c_hs_cb, c_hs_bg, c_kl_n, c_kl_nm, c_kl_bt, c_kl_be, c_kl_ld, c_kl_hs, c_kl_kl, c_kl_ol, c_kl_pr, c_kl_dr, c_kl_ev, c_kl_na, c_kl_ak, c_kl_ms, c_kl_ck, c_kl_cp, c_kl_cu, c_kl_cb, c_kl_bg, c_ol_n, c_ol_nm, c_ol_bt, c_ol_be, c_ol_ld, c_ol_hs, c_ol_kl, c_ol_ol, c_ol_pr, c_ol_dr, c_ol_ev, c_ol_na, c_ol_ak, c_ol_ms, c_ol_ck, c_ol_cp, c_ol_cu, c_ol_cb, c_ol_bg, c_pr_n, c_pr_nm, c_pr_bt, c_pr_be, c_pr_ld, c_pr_hs, c_pr_kl, c_pr_ol, c_pr_pr, c_pr_dr, c_pr_ev, c_pr_na, c_pr_ak, c_pr_ms, c_pr_ck, c_pr_cp, c_pr_cu, c_pr_cb, c_pr_bg, c_dr_n, c_dr_nm, c_dr_bt, c_dr_be, c_dr_ld, c_dr_hs, c_dr_kl, c_dr_ol, c_dr_pr, c_dr_dr, c_dr_ev, c_dr_na, c_dr_ak, c_dr_ms, c_dr_ck, c_dr_cp, c_dr_cu, c_dr_cb, c_dr_bg, c_ev_n, c_ev_nm, c_ev_bt, c_ev_be, c_ev_ld, c_ev_hs, c_ev_kl, c_ev_ol, c_ev_pr, c_ev_dr, c_ev_ev, c_ev_na, c_ev_ak, c_ev_ms, c_ev_ck, c_ev_cp, c_ev_cu, c_ev_cb, c_ev_bg, c_na_n, c_na_nm, c_na_bt, c_na_be, c_na_ld, c_na_hs, c_na_kl, c_na_ol, c_na_pr, c_na_dr, c_na_ev, c_na_na, c_na_ak, c_na_ms, c_na_ck, c_na_cp, c_na_cu, c_na_cb, c_na_bg, c_ak_n, c_ak_nm, c_ak_bt, c_ak_be, c_ak_ld, c_ak_hs, c_ak_kl, c_ak_ol, c_ak_pr, c_ak_dr, c_ak_ev, c_ak_na, c_ak_ak, c_ak_ms, c_ak_ck, c_ak_cp, c_ak_cu, c_ak_cb, c_ak_bg, c_ms_n, c_ms_nm, c_ms_bt, c_ms_be, c_ms_ld, c_ms_hs, c_ms_kl, c_ms_ol, c_ms_pr, c_ms_dr, c_ms_ev, c_ms_na, c_ms_ak, c_ms_ms, c_ms_ck, c_ms_cp, c_ms_cu, c_ms_cb, c_ms_bg, c_ck_n, c_ck_nm, c_ck_bt, c_ck_be, c_ck_ld, c_ck_hs, c_ck_kl, c_ck_ol, c_ck_pr, c_ck_dr, c_ck_ev, c_ck_na, c_ck_ak, c_ck_ms, c_ck_ck, c_ck_cp, c_ck_cu, c_ck_cb, c_ck_bg, c_cp_n, c_cp_nm, c_cp_bt, c_cp_be, c_cp_ld, c_cp_hs, c_cp_kl, c_cp_ol, c_cp_pr, c_cp_dr, c_cp_ev, c_cp_na, c_cp_ak, c_cp_ms, c_cp_ck, c_cp_cp, c_cp_cu, c_cp_cb, c_cp_bg, c_cu_n, c_cu_nm, c_cu_bt, c_cu_be, c_cu_ld, c_cu_hs, c_cu_kl, c_cu_ol, c_cu_pr, c_cu_dr, c_cu_ev, c_cu_na, c_cu_ak, c_cu_ms, c_cu_ck, c_cu_cp, c_cu_cu, c_cu_cb, c_cu_bg, c_cb_n, c_cb_nm, c_cb_bt, c_cb_be, c_cb_ld, c_cb_hs, c_cb_kl, c_cb_ol, c_cb_pr, c_cb_dr, c_cb_ev, c_cb_na, c_cb_ak, c_cb_ms, c_cb_ck, c_cb_cp, c_cb_cu, c_cb_cb, c_cb_bg, c_bg_n, c_bg_nm, c_bg_bt, c_bg_be, c_bg_ld, c_bg_hs, c_bg_kl, c_bg_ol, c_bg_pr, c_bg_dr, c_bg_ev, c_bg_na, c_bg_ak, c_bg_ms, c_bg_ck, c_bg_cp, c_bg_cu, c_bg_cb, c_bg_bg]; done) | (simp only [made, nop, c_n_n, c_n_nm, c_n_bt, c_n_be, c_n_ld, c_n_hs, c_n_kl, c_n_ol, c_n_pr, c_n_dr, c_n_ev, c_n_na, c_n_ak, c_n_ms, c_n_ck, c_n_cp, c_n_cu, c_n_cb, c_n_bg, c_nm_n, c_nm_nm, c_nm_bt, c_nm_be, c_nm_ld, c_nm_hs, c_nm_kl, c_nm_ol, c_nm_pr, c_nm_dr, c_nm_ev, c_nm_na, c_nm_ak, c_nm_ms, c_nm_ck, c_nm_cp, c_nm_cu, c_nm_cb, c_nm_bg, c_bt_n, c_bt_nm, c_bt_bt, c_bt_be, c_bt_ld, c_bt_hs, c_bt_kl, c_bt_ol, c_bt_pr, c_bt_dr, c_bt_ev, c_bt_na, c_bt_ak, c_bt_ms, c_bt_ck, c_bt_cp, c_bt_cu, c_bt_cb, c_bt_bg, c_be_n, c_be_nm, c_be_bt, c_be_be, c_be_ld, c_be_hs, c_be_kl, c_be_ol, c_be_pr, c_be_dr, c_be_ev, c_be_na, c_be_ak, c_be_ms, c_be_ck, c_be_cp, c_be_cu, c_be_cb, c_be_bg, c_ld_n, c_ld_nm, c_ld_bt, c_ld_be, c_ld_ld, c_ld_hs, c_ld_kl, c_ld_ol, c_ld_pr, c_ld_dr, c_ld_ev, c_ld_na, c_ld_ak, c_ld_ms, c_ld_ck, c_ld_cp, c_ld_cu, c_ld_cb, c_ld_bg, c_hs_n, c_hs_nm, c_hs_bt, c_hs_be, c_hs_ld, c_hs_hs, c_hs_kl, c_hs_ol, c_hs_pr, c_hs_dr, c_hs_ev, c_hs_na, c_hs_ak, c_hs_ms, c_hs_ck, c_hs_cp, c_hs_cu, c_hs_cb, c_hs_bg, c_kl_n, c_kl_nm, c_kl_bt, c_kl_be, c_kl_ld, c_kl_hs, c_kl_kl, c_kl_ol, c_kl_pr, c_kl_dr, c_kl_ev, c_kl_na, c_kl_ak, c_kl_ms, c_kl_ck, c_kl_cp, c_kl_cu, c_kl_cb, c_kl_bg, c_ol_n, c_ol_nm, c_ol_bt, c_ol_be, c_ol_ld, c_ol_hs, c_ol_kl, c_ol_ol, c_ol_pr, c_ol_dr, c_ol_ev, c_ol_na, c_ol_ak, c_ol_ms, c_ol_ck, c_ol_cp, c_ol_cu, c_ol_cb, c_ol_bg, c_pr_n, c_pr_nm, c_pr_bt, c_pr_be, c_pr_ld, c_pr_hs, c_pr_kl, c_pr_ol, c_pr_pr, c_pr_dr, c_pr_ev, c_pr_na, c_pr_ak, c_pr_ms, c_pr_ck, c_pr_cp, c_pr_cu, c_pr_cb, c_pr_bg, c_dr_n, c_dr_nm, c_dr_bt, c_dr_be, c_dr_ld, c_dr_hs, c_dr_kl, c_dr_ol, c_dr_pr, c_dr_dr, c_dr_ev, c_dr_na, c_dr_ak, c_dr_ms, c_dr_ck, c_dr_cp, c_dr_cu, c_dr_cb, c_dr_bg, c_ev_n, c_ev_nm, c_ev_bt, c_ev_be, c_ev_ld, c_ev_hs, c_ev_kl, c_ev_ol, c_ev_pr, c_ev_dr, c_ev_ev, c_ev_na, c_ev_ak, c_ev_ms, c_ev_ck, c_ev_cp, c_ev_cu, c_ev_cb, c_ev_bg, c_na_n, c_na_nm, c_na_bt, c_na_be, c_na_ld, c_na_hs, c_na_kl, c_na_ol, c_na_pr, c_na_dr, c_na_ev, c_na_na, c_na_ak, c_na_ms, c_na_ck, c_na_cp, c_na_cu, c_na_cb, c_na_bg, c_ak_n, c_ak_nm, c_ak_bt, c_ak_be, c_ak_ld, c_ak_hs, c_ak_kl, c_ak_ol, c_ak_pr, c_ak_dr, c_ak_ev, c_ak_na, c_ak_ak, c_ak_ms, c_ak_ck, c_ak_cp, c_ak_cu, c_ak_cb, c_ak_bg, c_ms_n, c_ms_nm, c_ms_bt, c_ms_be, c_ms_ld, c_ms_hs, c_ms_kl, c_ms_ol, c_ms_pr, c_ms_dr, c_ms_ev, c_ms_na, c_ms_ak, c_ms_ms, c_ms_ck, c_ms_cp, c_ms_cu, c_ms_cb, c_ms_bg, c_ck_n, c_ck_nm, c_ck_bt, c_ck_be, c_ck_ld, c_ck_hs, c_ck_kl, c_ck_ol, c_ck_pr, c_ck_dr, c_ck_ev, c_ck_na, c_ck_ak, c_ck_ms, c_ck_ck, c_ck_cp, c_ck_cu, c_ck_cb, c_ck_bg, c_cp_n, c_cp_nm, c_cp_bt, c_cp_be, c_cp_ld, c_cp_hs, c_cp_kl, c_cp_ol, c_cp_pr, c_cp_dr, c_cp_ev, c_cp_na, c_cp_ak, c_cp_ms, c_cp_ck, c_cp_cp, c_cp_cu, c_cp_cb, c_cp_bg, c_cu_n, c_cu_nm, c_cu_bt, c_cu_be, c_cu_ld, c_cu_hs, c_cu_kl, c_cu_ol, c_cu_pr, c_cu_dr, c_cu_ev, c_cu_na, c_cu_ak, c_cu_ms, c_cu_ck, c_cu_cp, c_cu_cu, c_cu_cb, c_cu_bg, c_cb_n, c_cb_nm, c_cb_bt, c_cb_be, c_cb_ld, c_cb_hs, c_cb_kl, c_cb_ol, c_cb_pr, c_cb_dr, c_cb_ev, c_cb_na, c_cb_ak, c_cb_ms, c_cb_ck, c_cb_cp, c_cb_cu, c_cb_cb, c_cb_bg, c_bg_n, c_bg_nm, c_bg_bt, c_bg_be, c_bg_ld, c_bg_hs, c_bg_kl, c_bg_ol, c_bg_pr, c_bg_dr, c_bg_ev, c_bg_na, c_bg_ak, c_bg_ms, c_bg_ck, c_bg_cp, c_bg_cu, c_bg_cb, c_bg_bg]; rfl)
theorem go_drawn {s : ST} {m : MM} {name : Int32} (h : RC s m) : ∃ m', go 39 0 [some (vr 7 (some 0)), some (vi name), none, none] [] m = some (some (vi (o_drawn s name).1), m') ∧ RC (o_drawn s name).2 m' ∧ fg QZ m m' := by
  have a1 := go_isNamed (name := name) h.1
  have k6 := h.2.2.1.2.2.2.2.2
  unfold o_drawn
  cases hi : isNm s name
  · rw [hi, b2_f] at a1
    simp only [Bool.false_eq_true, if_false]
    obtain ⟨m1, c1, c2, c3⟩ := go_addPeer (name := name) (b := (c_dr s * 1103515245 + 12345) >>> (16 &&& 31) &&& 255) h
    by_cases hn : c_n s = 32
    · rw [if_pos hn] at c1 c2 ⊢
      refine ⟨m1, ?_, c2, c3⟩
      simp only [s39_0, s39_1, s39_2, s39_5, s39_8, s39_9, s39_10, s39_11, s39_14, s39_16, s39_17, s39_20, s39_21i, s39_21r, s39_21n, s39_22, s39_23, s39_24, s39_25, s39_27, s39_28, s39_31, s39_32, s39_35i, s39_35r, s39_35n, s39_36, s39_37, s39_39, s39_42, s39_43, s39_44, s39_47, s39_48, eq_self, ixk_some, bd_some, nl_n, nl_i, nl_r, Option.toList_some, Option.toList_none, List.cons_append, List.nil_append, a1, k6]
      simp [s39_0, s39_1, s39_2, s39_5, s39_8, s39_9, s39_10, s39_11, s39_14, s39_16, s39_17, s39_20, s39_21i, s39_21r, s39_21n, s39_22, s39_23, s39_24, s39_25, s39_27, s39_28, s39_31, s39_32, s39_35i, s39_35r, s39_35n, s39_36, s39_37, s39_39, s39_42, s39_43, s39_44, s39_47, s39_48, eq_self, ixk_some, bd_some, nl_n, nl_i, nl_r, Option.toList_some, Option.toList_none, List.cons_append, List.nil_append, c1]
    · rw [if_neg hn] at c1 c2 ⊢
      rw [made_dr]
      refine ⟨sI m1 7 0 8 (c_dr s * 1103515245 + 12345), ?_, RC_dr c2, fg_tr c3 (fg_sI _ _ ⟨by decide, by decide, by decide⟩)⟩
      have hle := h.1.1
      have h3 : ¬ nI (c_n s) = -3 := by
        intro z
        have := congrArg Int32.toInt z
        rw [nI_toInt (by omega)] at this
        have h4 : ((-3 : Int32)).toInt = -3 := by decide
        omega
      simp only [s39_0, s39_1, s39_2, s39_5, s39_8, s39_9, s39_10, s39_11, s39_14, s39_16, s39_17, s39_20, s39_21i, s39_21r, s39_21n, s39_22, s39_23, s39_24, s39_25, s39_27, s39_28, s39_31, s39_32, s39_35i, s39_35r, s39_35n, s39_36, s39_37, s39_39, s39_42, s39_43, s39_44, s39_47, s39_48, eq_self, ixk_some, bd_some, nl_n, nl_i, nl_r, Option.toList_some, Option.toList_none, List.cons_append, List.nil_append, a1, k6]
      simp [s39_0, s39_1, s39_2, s39_5, s39_8, s39_9, s39_10, s39_11, s39_14, s39_16, s39_17, s39_20, s39_21i, s39_21r, s39_21n, s39_22, s39_23, s39_24, s39_25, s39_27, s39_28, s39_31, s39_32, s39_35i, s39_35r, s39_35n, s39_36, s39_37, s39_39, s39_42, s39_43, s39_44, s39_47, s39_48, eq_self, ixk_some, bd_some, nl_n, nl_i, nl_r, Option.toList_some, Option.toList_none, List.cons_append, List.nil_append, c1, h3]
  · rw [hi, b2_t] at a1
    simp only [if_true]
    refine ⟨m, ?_, h, fg_rf _ _⟩
    simp only [s39_0, s39_1, s39_2, s39_5, s39_8, s39_9, s39_10, s39_11, s39_14, s39_16, s39_17, s39_20, s39_21i, s39_21r, s39_21n, s39_22, s39_23, s39_24, s39_25, s39_27, s39_28, s39_31, s39_32, s39_35i, s39_35r, s39_35n, s39_36, s39_37, s39_39, s39_42, s39_43, s39_44, s39_47, s39_48, eq_self, ixk_some, bd_some, nl_n, nl_i, nl_r, Option.toList_some, Option.toList_none, List.cons_append, List.nil_append, a1]
    simp
