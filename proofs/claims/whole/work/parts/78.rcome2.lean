/-! the reference: come, deliver, all -/
theorem rr_come {s : ST} {m : MM} {i : Nat} {g : MSG} (h : RR s m) (hg : (c_ms s)[i]? = some g) (ht : TK s i g) (hr : TR s i g) :
    ∃ m', go 149 0 [some (vr 8 (some 0)), some (vi (nI i)), none, none, none, none, none, none, none] [] m = some (none, m') ∧ RR (come s i) m' ∧ fs QW m m' := by
  obtain ⟨hcl, hto, hA, hN⟩ := ht
  obtain ⟨aN, tB, tG, tL, tS, tA, tC⟩ := hr
  have hi := (List.getElem?_eq_some_iff.mp hg).1
  have h32 := h.1.2.2.1
  have hx := h.1.1
  have hn := h.1.2.1
  have hl192 := h.2.2.2.2.1.2.1
  obtain ⟨g1, g2, g3, g4, g5, g6, g7, g8⟩ := h.2.2.2.2.1.2.2 i g hg
  have i43 := ixN (FN_43 hn) (i := i) (by omega) (by decide)
  have i44 := ixN (FN_44 hn) (i := i) (by omega) (by decide)
  have i45 := ixN (FN_45 hn) (i := i) (by omega) (by decide)
  have i46 := ixN (FN_46 hn) (i := i) (by omega) (by decide)
  have i47 := ixN (FN_47 hn) (i := i) (by omega) (by decide)
  have i48 := ixN (FN_48 hn) (i := i) (by omega) (by decide)
  have i49 := ixN (FN_49 hn) (i := i) (by omega) (by decide)
  obtain ⟨m1, a1, a2, a3⟩ := rr_gone h hi
  have hx1 := FX_fs hx a3
  have hn1 := FN_fs hn a3
  have i22 := ixN (FN_22 hn1) (i := g_to g) (by omega) (by decide)
  have g22 : mI m1 22 0 (g_to g) = c_ld s (g_to g) := (a2.1.2.2.2.2.2 (g_to g) hto).2.2.2.1
  have F2 : fs (fun r k => r = 22 ∧ k = g_to g) m1 (sI m1 22 0 (g_to g) (c_ld s (g_to g) + 1)) := fs1
  have R2 : RR (tkn s i g) (sI m1 22 0 (g_to g) (c_ld s (g_to g) + 1)) := RR_P a2 (RRp_ld a2.1 hto) F2 (fun r k z => by omega) (by simp only [SEr, tkn, C_n_n, C_n_nm, C_n_bt, C_n_be, C_n_ld, C_n_hs, C_n_kl, C_n_ol, C_n_pr, C_n_dr, C_n_ev, C_n_na, C_n_ak, C_n_ms, C_n_ck, C_n_cp, C_n_cu, C_n_cb, C_n_bg, C_nm_n, C_nm_nm, C_nm_bt, C_nm_be, C_nm_ld, C_nm_hs, C_nm_kl, C_nm_ol, C_nm_pr, C_nm_dr, C_nm_ev, C_nm_na, C_nm_ak, C_nm_ms, C_nm_ck, C_nm_cp, C_nm_cu, C_nm_cb, C_nm_bg, C_bt_n, C_bt_nm, C_bt_bt, C_bt_be, C_bt_ld, C_bt_hs, C_bt_kl, C_bt_ol, C_bt_pr, C_bt_dr, C_bt_ev, C_bt_na, C_bt_ak, C_bt_ms, C_bt_ck, C_bt_cp, C_bt_cu, C_bt_cb, C_bt_bg, C_be_n, C_be_nm, C_be_bt, C_be_be, C_be_ld, C_be_hs, C_be_kl, C_be_ol, C_be_pr, C_be_dr, C_be_ev, C_be_na, C_be_ak, C_be_ms, C_be_ck, C_be_cp, C_be_cu, C_be_cb, C_be_bg, C_ld_n, C_ld_nm, C_ld_bt, C_ld_be, C_ld_ld, C_ld_hs, C_ld_kl, C_ld_ol, C_ld_pr, C_ld_dr, C_ld_ev, C_ld_na, C_ld_ak, C_ld_ms, C_ld_ck, C_ld_cp, C_ld_cu, C_ld_cb, C_ld_bg, C_hs_n, C_hs_nm, C_hs_bt, C_hs_be, C_hs_ld, C_hs_hs, C_hs_kl, C_hs_ol, C_hs_pr, C_hs_dr, C_hs_ev, C_hs_na, C_hs_ak, C_hs_ms, C_hs_ck, C_hs_cp, C_hs_cu, C_hs_cb, C_hs_bg, C_kl_n, C_kl_nm, C_kl_bt, C_kl_be, C_kl_ld, C_kl_hs, C_kl_kl, C_kl_ol, C_kl_pr, C_kl_dr, C_kl_ev, C_kl_na, C_kl_ak, C_kl_ms, C_kl_ck, C_kl_cp, C_kl_cu, C_kl_cb, C_kl_bg, C_ol_n, C_ol_nm, C_ol_bt, C_ol_be, C_ol_ld, C_ol_hs, C_ol_kl, C_ol_ol, C_ol_pr, C_ol_dr, C_ol_ev, C_ol_na, C_ol_ak, C_ol_ms, C_ol_ck, C_ol_cp, C_ol_cu, C_ol_cb, C_ol_bg, C_pr_n, C_pr_nm, C_pr_bt, C_pr_be, C_pr_ld, C_pr_hs, C_pr_kl, C_pr_ol, C_pr_pr, C_pr_dr, C_pr_ev, C_pr_na, C_pr_ak, C_pr_ms, C_pr_ck, C_pr_cp, C_pr_cu, C_pr_cb, C_pr_bg, C_dr_n, C_dr_nm, C_dr_bt, C_dr_be, C_dr_ld, C_dr_hs, C_dr_kl, C_dr_ol, C_dr_pr, C_dr_dr, C_dr_ev, C_dr_na, C_dr_ak, C_dr_ms, C_dr_ck, C_dr_cp, C_dr_cu, C_dr_cb, C_dr_bg, C_ev_n, C_ev_nm, C_ev_bt, C_ev_be, C_ev_ld, C_ev_hs, C_ev_kl, C_ev_ol, C_ev_pr, C_ev_dr, C_ev_ev, C_ev_na, C_ev_ak, C_ev_ms, C_ev_ck, C_ev_cp, C_ev_cu, C_ev_cb, C_ev_bg, C_na_n, C_na_nm, C_na_bt, C_na_be, C_na_ld, C_na_hs, C_na_kl, C_na_ol, C_na_pr, C_na_dr, C_na_ev, C_na_na, C_na_ak, C_na_ms, C_na_ck, C_na_cp, C_na_cu, C_na_cb, C_na_bg, C_ak_n, C_ak_nm, C_ak_bt, C_ak_be, C_ak_ld, C_ak_hs, C_ak_kl, C_ak_ol, C_ak_pr, C_ak_dr, C_ak_ev, C_ak_na, C_ak_ak, C_ak_ms, C_ak_ck, C_ak_cp, C_ak_cu, C_ak_cb, C_ak_bg, C_ms_n, C_ms_nm, C_ms_bt, C_ms_be, C_ms_ld, C_ms_hs, C_ms_kl, C_ms_ol, C_ms_pr, C_ms_dr, C_ms_ev, C_ms_na, C_ms_ak, C_ms_ms, C_ms_ck, C_ms_cp, C_ms_cu, C_ms_cb, C_ms_bg, C_ck_n, C_ck_nm, C_ck_bt, C_ck_be, C_ck_ld, C_ck_hs, C_ck_kl, C_ck_ol, C_ck_pr, C_ck_dr, C_ck_ev, C_ck_na, C_ck_ak, C_ck_ms, C_ck_ck, C_ck_cp, C_ck_cu, C_ck_cb, C_ck_bg, C_cp_n, C_cp_nm, C_cp_bt, C_cp_be, C_cp_ld, C_cp_hs, C_cp_kl, C_cp_ol, C_cp_pr, C_cp_dr, C_cp_ev, C_cp_na, C_cp_ak, C_cp_ms, C_cp_ck, C_cp_cp, C_cp_cu, C_cp_cb, C_cp_bg, C_cu_n, C_cu_nm, C_cu_bt, C_cu_be, C_cu_ld, C_cu_hs, C_cu_kl, C_cu_ol, C_cu_pr, C_cu_dr, C_cu_ev, C_cu_na, C_cu_ak, C_cu_ms, C_cu_ck, C_cu_cp, C_cu_cu, C_cu_cb, C_cu_bg, C_cb_n, C_cb_nm, C_cb_bt, C_cb_be, C_cb_ld, C_cb_hs, C_cb_kl, C_cb_ol, C_cb_pr, C_cb_dr, C_cb_ev, C_cb_na, C_cb_ak, C_cb_ms, C_cb_ck, C_cb_cp, C_cb_cu, C_cb_cb, C_cb_bg, C_bg_n, C_bg_nm, C_bg_bt, C_bg_be, C_bg_ld, C_bg_hs, C_bg_kl, C_bg_ol, C_bg_pr, C_bg_dr, C_bg_ev, C_bg_na, C_bg_ak, C_bg_ms, C_bg_ck, C_bg_cp, C_bg_cu, C_bg_cb, C_bg_bg, and_self])
  have W2 : fs QW m (sI m1 22 0 (g_to g) (c_ld s (g_to g) + 1)) := fs_tr (fs_le a3 (fun r k z => by unfold QW; omega)) (fs_le F2 (fun r k z => by unfold QW; omega))
  have BW : ∀ B, BGo B m → BGo B (sI m1 22 0 (g_to g) (c_ld s (g_to g) + 1)) := fun B hB => BGo_fs (BGo_fs hB a3 (fun r k z => by omega)) F2 (fun r k z => by omega)
  have f5 := FX_5 hx1
  have base : ∀ r, go 149 70 [some (vr 8 (some 0)), some (vi (nI i)), some (vi (nI (g_so g))), some (vi (nI (g_to g))), some (vi (enc (g_as g))), some (vi (enc (g_lv g))), some (vi (nI (g_sd g))), some (vi (mI m 48 0 i)), some (vi (mI m 49 0 i))] [vi (nI (g_so g))] (sI m1 22 0 (g_to g) (c_ld s (g_to g) + 1)) = r → go 149 0 [some (vr 8 (some 0)), some (vi (nI i)), none, none, none, none, none, none, none] [] m = r := by
    intro r hr
    rw [← hr]
    simp only [s149_0, s149_1, s149_4, s149_5, s149_6i, s149_6r, s149_6n, s149_7, s149_8, s149_11, s149_12, s149_13i, s149_13r, s149_13n, s149_14, s149_15, s149_18, s149_19, s149_20i, s149_20r, s149_20n, s149_22, s149_23, s149_26, s149_27, s149_28i, s149_28r, s149_28n, s149_30, s149_31, s149_34, s149_35, s149_36i, s149_36r, s149_36n, s149_38, s149_39, s149_42, s149_43, s149_44i, s149_44r, s149_44n, s149_46, s149_47, s149_50, s149_51, s149_52i, s149_52r, s149_52n, s149_54, s149_55, s149_56, s149_59, s149_60, s149_63, s149_64, s149_65, s149_66, s149_67, s149_68, s149_69, eq_self, ixk_some, bd_some, nl_n, nl_i, nl_r, Option.toList_some, Option.toList_none, List.cons_append, List.nil_append, FX_2 hx, FX_3 hx, FX_4 hx, FX_5 hx, FX_6 hx, FX_7 hx, FX_8 hx, FX_9 hx, FX_10 hx, FX_11 hx, FX_12 hx, FX_13 hx, FX_15 hx, FX_19 hx, FX_20 hx, FX_21 hx, FX_22 hx, FX_23 hx, FX_24 hx, FX_25 hx, FX_26 hx, FX_27 hx, FX_28 hx, FX_29 hx, FX_31 hx, FX_32 hx, FX_33 hx, FX_34 hx, FX_35 hx, FX_36 hx, FX_37 hx, FX_39 hx, FX_40 hx, i43, g1, i44, g2, i45, g3, i46, g4, i47, g5, i48, i49, a1, f5, i22, g22]
  rw [come_eq hg]
  have eT : c_cp (tkn s i g) = c_cp s ∧ c_n (tkn s i g) = c_n s ∧ c_ms (tkn s i g) = (c_ms s).eraseIdx i ∧ c_pr (tkn s i g) = c_pr s ∧ c_bg (tkn s i g) = c_bg s ∧ CLs (tkn s i g) := ⟨rfl, rfl, rfl, rfl, rfl, hcl⟩
  generalize sI m1 22 0 (g_to g) (c_ld s (g_to g) + 1) = m2 at *
  obtain ⟨t1, t2, t3, t4, t5, t6⟩ := eT
  have hN4 := aN g (List.mem_of_getElem? hg)
  cases hk : g_as g with
  | some k => 
    have hso : g_so g ≤ 4 := Nat.le_of_not_lt (fun z => by
      have := hN4.1.mpr z
      rw [hk] at this
      cases this)
    obtain ⟨u1, u2, u3, u4⟩ := tA k hk
    obtain ⟨m3, d1, d2, d3⟩ := rr_comesAsk R2 t6 (hA k hk)
    obtain ⟨m4, e1, e2, e3⟩ := rr_looks d2 u1 (fun z => (u4 z).1) u2 u3
    rw [looks_id (fun z => (u4 z).2)] at e2
    refine ⟨m4, base _ ?_, e2, fs_tr W2 (fs_tr d3 e3)⟩
    rw [hk, show enc (some k) = nI k from rfl, s149_70_d (Or.inl (by rw [nI_toInt (by omega)]; omega))]
    simp only [s149_219, s149_220, s149_222, s149_223, s149_226, s149_227, s149_230, eq_self, ixk_some, bd_some, nl_n, nl_i, nl_r, Option.toList_some, Option.toList_none, List.cons_append, List.nil_append, d1, e1]
  | none => 
    obtain ⟨hG, hl, hc1, hc2, hc3⟩ := hN hk
    obtain ⟨u1, u2⟩ := tC hk
    obtain ⟨gk, gu, gt, gs, g0, q5, q6, q7, q8, q9, q10⟩ := hG
    have fin : ∀ m3, RR (comesCh (tkn s i g) g) m3 → fs QW m2 m3 → (∀ r, go 149 226 [some (vr 8 (some 0)), some (vi (nI i)), some (vi (nI (g_so g))), some (vi (nI (g_to g))), some (vi (enc (g_as g))), some (vi (enc (g_lv g))), some (vi (nI (g_sd g))), some (vi (mI m 48 0 i)), some (vi (mI m 49 0 i))] [] m3 = r → go 149 70 [some (vr 8 (some 0)), some (vi (nI i)), some (vi (nI (g_so g))), some (vi (nI (g_to g))), some (vi (enc (g_as g))), some (vi (enc (g_lv g))), some (vi (nI (g_sd g))), some (vi (mI m 48 0 i)), some (vi (mI m 49 0 i))] [vi (nI (g_so g))] m2 = r) → ∃ m', go 149 0 [some (vr 8 (some 0)), some (vi (nI i)), none, none, none, none, none, none, none] [] m = some (none, m') ∧ RR (looks (comesCh (tkn s i g) g)) m' ∧ fs QW m m' := by
      intro m3 R3 F3 hz
      obtain ⟨m4, e1, e2, e3⟩ := rr_looks R3 u1 (fun _ => hc1) u2 hc3
      refine ⟨m4, base _ (hz _ ?_), e2, fs_tr W2 (fs_tr F3 e3)⟩
      simp only [s149_226, s149_227, s149_230, eq_self, ixk_some, bd_some, nl_n, nl_i, nl_r, Option.toList_some, Option.toList_none, List.cons_append, List.nil_append, e1]
    have cc : comesCh (tkn s i g) g = comesCh (tkn s i g) g := rfl
    conv at cc => rhs; unfold comesCh
    rcases g0 with e | e | e | e | e | e
    · obtain ⟨p1, p2, p3⟩ := q5 e
      simp only [e, if_true] at cc
      obtain ⟨m3, d1, d2, d3⟩ := rr_comesJoin R2 t6 gt gu p1 (fun g' hg' => tB (Or.inl e) g' (by rw [← t3]; exact hg')) (by omega) p3
      rw [t1] at d1
      refine fin m3 (by rw [cc]; exact d2) d3 (fun r hr => ?_)
      rw [← hr, e, show nI 5 = 5 from rfl, g6 (Or.inl e)]
      simp only [s149_70_5, s149_70_6, s149_70_7, s149_70_8, s149_70_9, s149_70_10, s149_70_d, s149_108, s149_109, s149_110, s149_112, s149_115, eq_self, ixk_some, bd_some, nl_n, nl_i, nl_r, Option.toList_some, Option.toList_none, List.cons_append, List.nil_append, d1]
    · simp only [e, Nat.reduceEqDiff, if_true, if_false] at cc
      obtain ⟨v1, v2, v3⟩ := tG (Or.inl e)
      obtain ⟨B, b1, b2⟩ := h.2.2.2.2.2.2 ⟨g, List.mem_of_getElem? hg, Or.inl e⟩
      obtain ⟨m3, d1, d2, d3⟩ := rr_givec (g := g) (B := B) (a1 := nI i) (a2 := nI (g_so g)) (a4 := enc (g_as g)) (a5 := enc (g_lv g)) (a6 := nI (g_sd g)) R2 t6 gu (by rw [t2]; exact v2) (by rw [t2]; exact v3) (BW B b1) (by rw [t5]; exact b2 [] List.Pairwise.nil) (q6 e) (fun g' hg' => tB (Or.inr (Or.inl e)) g' (by rw [← t3]; exact hg')) hl
      rw [t1] at d1
      refine fin m3 (by rw [cc]; exact d2) d3 (fun r hr => ?_)
      rw [(g8 (Or.inl e)).1, (g8 (Or.inl e)).2, v1] at hr ⊢
      have := d1 r hr
      rw [← this, e, show nI 6 = 6 from rfl]
      simp only [s149_70_5, s149_70_6, s149_70_7, s149_70_8, s149_70_9, s149_70_10, s149_70_d]
    · simp only [e, Nat.reduceEqDiff, if_true, if_false] at cc
      obtain ⟨l, e1, e2⟩ := q7 e
      rw [e1] at cc
      obtain ⟨m3, d1, d2, d3⟩ := rr_comesLink (z := g_to g) (l := l) (d := g_sd g) (who := if g_sd g = 0 then g_lf g else g_rg g) R2 t6 gt e2 gs (by rw [t2]; exact tL e)
      refine fin m3 (by rw [cc]; exact d2) d3 (fun r hr => ?_)
      rw [← hr, e, show nI 7 = 7 from rfl, g7 e, e1, show enc (some l) = nI l from rfl]
      simp only [s149_70_5, s149_70_6, s149_70_7, s149_70_8, s149_70_9, s149_70_10, s149_70_d, s149_162, s149_163, s149_164, s149_166, s149_168, s149_170, s149_173, eq_self, ixk_some, bd_some, nl_n, nl_i, nl_r, Option.toList_some, Option.toList_none, List.cons_append, List.nil_append, d1]
    · simp only [e, Nat.reduceEqDiff, if_true, if_false] at cc
      obtain ⟨l, e1, e2⟩ := q8 e
      rw [e1] at cc
      obtain ⟨m3, d1, d2, d3⟩ := rr_comesSeek (z := g_to g) (l := l) (d := g_sd g) R2 t6 gu gt e2 gs (by omega)
      rw [t1] at d1
      refine fin m3 (by rw [cc]; exact d2) d3 (fun r hr => ?_)
      rw [← hr, e, show nI 8 = 8 from rfl, g6 (Or.inr e), e1, show enc (some l) = nI l from rfl]
      simp only [s149_70_5, s149_70_6, s149_70_7, s149_70_8, s149_70_9, s149_70_10, s149_70_d, s149_176, s149_177, s149_178, s149_180, s149_182, s149_184, s149_187, eq_self, ixk_some, bd_some, nl_n, nl_i, nl_r, Option.toList_some, Option.toList_none, List.cons_append, List.nil_append, d1]
    · simp only [e, Nat.reduceEqDiff, if_true, if_false] at cc
      obtain ⟨l, e1, e2⟩ := q9 e
      rw [e1] at cc
      obtain ⟨v1, v2, v3⟩ := tG (Or.inr e)
      obtain ⟨m3, d1, d2, d3⟩ := rr_place (i := c_cp (tkn s i g)) (l := l) (a := g_lf g) (b := g_rg g) R2.1 gu e2
      have R3 : RR (plc (tkn s i g) (c_cp (tkn s i g)) l (g_lf g) (g_rg g)) m3 := RR_P R2 d2 d3 QH_P (by simp only [SEr, nop, plc, C_n_n, C_n_nm, C_n_bt, C_n_be, C_n_ld, C_n_hs, C_n_kl, C_n_ol, C_n_pr, C_n_dr, C_n_ev, C_n_na, C_n_ak, C_n_ms, C_n_ck, C_n_cp, C_n_cu, C_n_cb, C_n_bg, C_nm_n, C_nm_nm, C_nm_bt, C_nm_be, C_nm_ld, C_nm_hs, C_nm_kl, C_nm_ol, C_nm_pr, C_nm_dr, C_nm_ev, C_nm_na, C_nm_ak, C_nm_ms, C_nm_ck, C_nm_cp, C_nm_cu, C_nm_cb, C_nm_bg, C_bt_n, C_bt_nm, C_bt_bt, C_bt_be, C_bt_ld, C_bt_hs, C_bt_kl, C_bt_ol, C_bt_pr, C_bt_dr, C_bt_ev, C_bt_na, C_bt_ak, C_bt_ms, C_bt_ck, C_bt_cp, C_bt_cu, C_bt_cb, C_bt_bg, C_be_n, C_be_nm, C_be_bt, C_be_be, C_be_ld, C_be_hs, C_be_kl, C_be_ol, C_be_pr, C_be_dr, C_be_ev, C_be_na, C_be_ak, C_be_ms, C_be_ck, C_be_cp, C_be_cu, C_be_cb, C_be_bg, C_ld_n, C_ld_nm, C_ld_bt, C_ld_be, C_ld_ld, C_ld_hs, C_ld_kl, C_ld_ol, C_ld_pr, C_ld_dr, C_ld_ev, C_ld_na, C_ld_ak, C_ld_ms, C_ld_ck, C_ld_cp, C_ld_cu, C_ld_cb, C_ld_bg, C_hs_n, C_hs_nm, C_hs_bt, C_hs_be, C_hs_ld, C_hs_hs, C_hs_kl, C_hs_ol, C_hs_pr, C_hs_dr, C_hs_ev, C_hs_na, C_hs_ak, C_hs_ms, C_hs_ck, C_hs_cp, C_hs_cu, C_hs_cb, C_hs_bg, C_kl_n, C_kl_nm, C_kl_bt, C_kl_be, C_kl_ld, C_kl_hs, C_kl_kl, C_kl_ol, C_kl_pr, C_kl_dr, C_kl_ev, C_kl_na, C_kl_ak, C_kl_ms, C_kl_ck, C_kl_cp, C_kl_cu, C_kl_cb, C_kl_bg, C_ol_n, C_ol_nm, C_ol_bt, C_ol_be, C_ol_ld, C_ol_hs, C_ol_kl, C_ol_ol, C_ol_pr, C_ol_dr, C_ol_ev, C_ol_na, C_ol_ak, C_ol_ms, C_ol_ck, C_ol_cp, C_ol_cu, C_ol_cb, C_ol_bg, C_pr_n, C_pr_nm, C_pr_bt, C_pr_be, C_pr_ld, C_pr_hs, C_pr_kl, C_pr_ol, C_pr_pr, C_pr_dr, C_pr_ev, C_pr_na, C_pr_ak, C_pr_ms, C_pr_ck, C_pr_cp, C_pr_cu, C_pr_cb, C_pr_bg, C_dr_n, C_dr_nm, C_dr_bt, C_dr_be, C_dr_ld, C_dr_hs, C_dr_kl, C_dr_ol, C_dr_pr, C_dr_dr, C_dr_ev, C_dr_na, C_dr_ak, C_dr_ms, C_dr_ck, C_dr_cp, C_dr_cu, C_dr_cb, C_dr_bg, C_ev_n, C_ev_nm, C_ev_bt, C_ev_be, C_ev_ld, C_ev_hs, C_ev_kl, C_ev_ol, C_ev_pr, C_ev_dr, C_ev_ev, C_ev_na, C_ev_ak, C_ev_ms, C_ev_ck, C_ev_cp, C_ev_cu, C_ev_cb, C_ev_bg, C_na_n, C_na_nm, C_na_bt, C_na_be, C_na_ld, C_na_hs, C_na_kl, C_na_ol, C_na_pr, C_na_dr, C_na_ev, C_na_na, C_na_ak, C_na_ms, C_na_ck, C_na_cp, C_na_cu, C_na_cb, C_na_bg, C_ak_n, C_ak_nm, C_ak_bt, C_ak_be, C_ak_ld, C_ak_hs, C_ak_kl, C_ak_ol, C_ak_pr, C_ak_dr, C_ak_ev, C_ak_na, C_ak_ak, C_ak_ms, C_ak_ck, C_ak_cp, C_ak_cu, C_ak_cb, C_ak_bg, C_ms_n, C_ms_nm, C_ms_bt, C_ms_be, C_ms_ld, C_ms_hs, C_ms_kl, C_ms_ol, C_ms_pr, C_ms_dr, C_ms_ev, C_ms_na, C_ms_ak, C_ms_ms, C_ms_ck, C_ms_cp, C_ms_cu, C_ms_cb, C_ms_bg, C_ck_n, C_ck_nm, C_ck_bt, C_ck_be, C_ck_ld, C_ck_hs, C_ck_kl, C_ck_ol, C_ck_pr, C_ck_dr, C_ck_ev, C_ck_na, C_ck_ak, C_ck_ms, C_ck_ck, C_ck_cp, C_ck_cu, C_ck_cb, C_ck_bg, C_cp_n, C_cp_nm, C_cp_bt, C_cp_be, C_cp_ld, C_cp_hs, C_cp_kl, C_cp_ol, C_cp_pr, C_cp_dr, C_cp_ev, C_cp_na, C_cp_ak, C_cp_ms, C_cp_ck, C_cp_cp, C_cp_cu, C_cp_cb, C_cp_bg, C_cu_n, C_cu_nm, C_cu_bt, C_cu_be, C_cu_ld, C_cu_hs, C_cu_kl, C_cu_ol, C_cu_pr, C_cu_dr, C_cu_ev, C_cu_na, C_cu_ak, C_cu_ms, C_cu_ck, C_cu_cp, C_cu_cu, C_cu_cb, C_cu_bg, C_cb_n, C_cb_nm, C_cb_bt, C_cb_be, C_cb_ld, C_cb_hs, C_cb_kl, C_cb_ol, C_cb_pr, C_cb_dr, C_cb_ev, C_cb_na, C_cb_ak, C_cb_ms, C_cb_ck, C_cb_cp, C_cb_cu, C_cb_cb, C_cb_bg, C_bg_n, C_bg_nm, C_bg_bt, C_bg_be, C_bg_ld, C_bg_hs, C_bg_kl, C_bg_ol, C_bg_pr, C_bg_dr, C_bg_ev, C_bg_na, C_bg_ak, C_bg_ms, C_bg_ck, C_bg_cp, C_bg_cu, C_bg_cb, C_bg_bg, and_self])
      have C3 : CLs (plc (tkn s i g) (c_cp (tkn s i g)) l (g_lf g) (g_rg g)) := cl_plc t6 (by rw [t2]; exact v2) (by rw [t2]; exact v3)
      obtain ⟨m4, f1, f2, f3⟩ := rr_linked (l := l) R3 C3 gu e2 hl
      rw [t1] at d1
      have f1 : go 126 0 [some (vr 8 (some 0)), some (vi (nI (c_cp s))), some (vi (nI l)), none, none] [] m3 = some (none, m4) := f1
      refine fin m4 (by rw [cc]; exact f2) (fs_tr (fs_le d3 QH_W) f3) (fun r hr => ?_)
      rw [← hr, (g8 (Or.inr e)).1, (g8 (Or.inr e)).2, v1, e, show nI 9 = 9 from rfl, e1, show enc (some l) = nI l from rfl]
      simp only [s149_70_5, s149_70_6, s149_70_7, s149_70_8, s149_70_9, s149_70_10, s149_70_d, s149_190, s149_191, s149_192, s149_194, s149_196, s149_198, s149_201, s149_202, s149_203, s149_205, s149_208, eq_self, ixk_some, bd_some, nl_n, nl_i, nl_r, Option.toList_some, Option.toList_none, List.cons_append, List.nil_append, d1, f1]
    · simp only [e, Nat.reduceEqDiff, if_false] at cc
      obtain ⟨B, b1, b2⟩ := h.2.2.2.2.2.2 ⟨g, List.mem_of_getElem? hg, Or.inr e⟩
      obtain ⟨m3, d1, d2, d3⟩ := rr_unpack (p := g_to g) (B := B) R2 gt (BW B b1) (by rw [t4, t5]; exact b2 _ (tS _ hto)) (q10 e) (fun g' hg' => tB (Or.inr (Or.inr e)) g' (by rw [← t3]; exact hg'))
      refine fin m3 (by rw [cc]; exact d2) d3 (fun r hr => ?_)
      rw [← hr, e, show nI 10 = 10 from rfl]
      simp only [s149_70_5, s149_70_6, s149_70_7, s149_70_8, s149_70_9, s149_70_10, s149_70_d, s149_211, s149_212, s149_213, s149_216, eq_self, ixk_some, bd_some, nl_n, nl_i, nl_r, Option.toList_some, Option.toList_none, List.cons_append, List.nil_append, d1]
