/-! the class: askComes -/
def ended (s : ST) (k u : Nat) : ST × Option Nat :=
  if a_so (c_ak s k) = 0 then (endA s k (nI u), none)
  else if a_so (c_ak s k) = 3 then (endA (c_pr_ s (up1 (c_pr s) u (ins (c_pr s u) (a_lo (c_ak s k)) (a_va (c_ak s k))))) k 1, none)
  else if a_so (c_ak s k) = 4 then ((match fnd (c_pr s u) (a_lo (c_ak s k)) with
    | some v => c_ak_ s (up1 (c_ak s) k (a_an_ (a_dn_ (a_va_ (c_ak s k) v) true) 1))
    | none => c_ak_ s (up1 (c_ak s) k (a_an_ (a_dn_ (c_ak s k) true) (-4)))), none)
  else alongR s k u (a_th_ (c_ak s k) true)
theorem isThere_eq (s : ST) (k u : Nat) : isThere s k u = match (ended s k u).2 with | some r => snda (ended s k u).1 k r | none => (ended s k u).1 := by
  unfold isThere ended
  by_cases h0 : a_so (c_ak s k) = 0
  · simp only [if_pos h0]
  · simp only [if_neg h0]
    by_cases h3 : a_so (c_ak s k) = 3
    · simp only [if_pos h3]
    · simp only [if_neg h3]
      by_cases h4 : a_so (c_ak s k) = 4
      · simp only [if_pos h4]
        cases fnd (c_pr s u) (a_lo (c_ak s k)) with
        | none => rfl
        | some v => exact endA_up s k _ 1
      · simp only [if_neg h4]
        have e : (if a_lo (a_th_ (c_ak s k) true) ≤ c_nm s u ∧ c_nm s u ≤ a_hi (a_th_ (c_ak s k) true) then a_nt_ (if a_nt (a_th_ (c_ak s k) true) < 40 then a_no_ (a_th_ (c_ak s k) true) (a_no (a_th_ (c_ak s k) true) ++ [u]) else a_th_ (c_ak s k) true) (a_nt (a_th_ (c_ak s k) true) + 1) else a_th_ (c_ak s k) true) = noA s (a_th_ (c_ak s k) true) u := rfl
        rw [e]
        unfold alongR
        have e2 : lnk (c_ak_ s (up1 (c_ak s) k (noA s (a_th_ (c_ak s k) true) u))) u 0 1 = lnk s u 0 1 := rfl
        have e3 := (noA_f s (a_th_ (c_ak s k) true) u).2.2.1
        rw [e2, e3, endA_up]
        cases lnk s u 0 1 with
        | none => rfl
        | some r => 
          show (if c_nm s r ≤ a_hi (a_th_ (c_ak s k) true) then _ else _) = _
          by_cases h5 : c_nm s r ≤ a_hi (a_th_ (c_ak s k) true)
          · simp only [if_pos h5]
          · simp only [if_neg h5]
theorem ended_f (s : ST) (k u : Nat) : c_ms (ended s k u).1 = c_ms s ∧ c_na (ended s k u).1 = c_na s := by
  unfold ended
  by_cases h0 : a_so (c_ak s k) = 0
  · simp only [if_pos h0]; exact ⟨rfl, rfl⟩
  · simp only [if_neg h0]
    by_cases h3 : a_so (c_ak s k) = 3
    · simp only [if_pos h3]; exact ⟨rfl, rfl⟩
    · simp only [if_neg h3]
      by_cases h4 : a_so (c_ak s k) = 4
      · simp only [if_pos h4]
        cases fnd (c_pr s u) (a_lo (c_ak s k)) <;> exact ⟨rfl, rfl⟩
      · simp only [if_neg h4]
        unfold alongR
        cases lnk s u 0 1 with
        | none => exact ⟨rfl, rfl⟩
        | some r => 
          by_cases h5 : c_nm s r ≤ a_hi (a_th_ (c_ak s k) true)
          · simp only [if_pos h5]; exact ⟨rfl, rfl⟩
          · simp only [if_neg h5]; exact ⟨rfl, rfl⟩
theorem go_ended {s : ST} {m : MM} {k u : Nat} (h : RC s m) (hcl : CLs s) (hk : k < c_na s) (hu : u < c_n s) (hs : srt (c_pr s u)) (hput : a_so (c_ak s k) = 3 → (ins (c_pr s u) (a_lo (c_ak s k)) (a_va (c_ak s k))).length ≤ 16) (hnt : a_nt (c_ak s k) + 1 < 2 ^ 30) (hw : awy s u = false) :
    ∃ m' t, go 71 0 [some (vr 1 (some k)), some (vr 6 (some u))] [] m = some (some (vr t (ended s k u).2), m') ∧ ((ended s k u).2 = none ∨ t = 6) ∧ RC (ended s k u).1 m' ∧ fK m m' := by
  have h2 := h.2.2.2.1.2.2.2.2.2.1 k hk
  have ho := h.2.2.2.1.2.2.2.2.2.2 k hk
  have a0 := go_isAway h.1 hu
  rw [hw, b2_f] at a0
  have F1 : fr (QS k) m (sI m 1 k 5 1) := fr_sI m _ ⟨Or.inl rfl, rfl⟩
  have ho1 : AKo (a_th_ (c_ak s k) true) := ho
  have R1 : RC (c_ak_ s (up1 (c_ak s) k (a_th_ (c_ak s k) true))) (sI m 1 k 5 1) := RC_ask h F1 (RC2_th h2) ho1
  have h2' := (RC_askget R1 hk).1
  have g1 : mI (sI m 1 k 5 1) 1 k 1 = nI (a_so (c_ak s k)) := h2'.2.1
  have gn : mI (sI m 1 k 5 1) 6 u 0 = nI u := (R1.1.2.2.2.2.2.2 u hu).1
  have g9 : mR (sI m 1 k 5 1) 6 u 9 = some (u + 1) := (R1.1.2.2.2.2.2.2 u hu).2.2.2.2.2.2.2.2.2.1
  have K1 : fK m (sI m 1 k 5 1) := fK_fr F1 QS_K
  have g2 : mI (sI m 1 k 5 1) 1 k 2 = a_lo (c_ak s k) := h2'.2.2.1
  have g4 : mL (sI m 1 k 5 1) 1 k 4 = a_va (c_ak s k) := h2'.2.2.2.2.1
  have base : ∀ r, go 71 22 [some (vr 1 (some k)), some (vr 6 (some u))] [vi (nI (a_so (c_ak s k)))] (sI m 1 k 5 1) = r → go 71 0 [some (vr 1 (some k)), some (vr 6 (some u))] [] m = r := by
    intro r hr
    rw [← hr]
    simp [s71_0, s71_1, s71_4, s71_7, s71_8, s71_11, s71_12, s71_13, s71_14, s71_15b0, s71_15b1, s71_18, s71_19, eq_self, ixk_some, bd_some, nl_n, nl_i, nl_r, Option.toList_some, Option.toList_none, List.cons_append, List.nil_append, a0, g1]
  generalize hm1 : sI m 1 k 5 1 = m1 at *
  have ho5 := ho.1
  have hso : a_so (c_ak s k) = 0 ∨ a_so (c_ak s k) = 3 ∨ a_so (c_ak s k) = 4 ∨ a_so (c_ak s k) = 1 ∨ a_so (c_ak s k) = 2 := by omega
  unfold ended
  rcases hso with e | e | e | e | e
  · simp only [e, if_true]
    have e1 : go 3 0 [some (vr 1 (some k)), some (vi (nI u))] [] m1 = some (none, finM m1 k (nI u)) := go_finish
    refine ⟨finM m1 k (nI u), 0, base _ ?_, Or.inl trivial, RC_ask2 R1 (fin_fr _ _ _) (RC2_fin h2') (AKo_fin ho), fK_tr K1 (fK_fr (fin_fr _ _ _) QS_K)⟩
    rw [e, show nI 0 = 0 from rfl]
    simp only [s71_0, s71_1, s71_4, s71_7, s71_8, s71_11, s71_12, s71_13, s71_14, s71_15b0, s71_15b1, s71_18, s71_19, s71_22_0, s71_22_1, s71_22_2, s71_22_3, s71_22_4, s71_22_d, s71_56, s71_57, s71_58, s71_61, s71_64, s71_65, s71_66, s71_67, s71_70, s71_71, s71_74, s71_75, s71_78, s71_81, s71_82, s71_83, s71_86, s71_87, s71_88, s71_89, s71_90, s71_93, s71_96, s71_97, s71_98, s71_99, s71_100, s71_103, eq_self, ixk_some, bd_some, nl_n, nl_i, nl_r, Option.toList_some, Option.toList_none, List.cons_append, List.nil_append, gn, e1]
  · simp only [e, Nat.reduceEqDiff, if_true, if_false]
    have hq := R1.2.2.2.2.2.1
    have hqu : RCl m1 (u + 1) (c_pr s u) := hq.2 u hu
    obtain ⟨m2, b1, b2, b3⟩ := go_set hqu (hput e)
    have hf : fr (fun r n => QP (u + 1) r n ∨ QP 0 r n) m1 m2 := fr_le b3 (fun r n z => Or.inl z)
    have Q2 := RCq_mv1 hq hu b2 (RCl_fr hq.1 b3 (by omega)) hf
    have R2 : RC (c_ak_ (c_pr_ s (up1 (c_pr s) u (ins (c_pr s u) (a_lo (c_ak s k)) (a_va (c_ak s k))))) (up1 (c_ak (c_pr_ s (up1 (c_pr s) u (ins (c_pr s u) (a_lo (c_ak s k)) (a_va (c_ak s k)))))) k (a_th_ (c_ak s k) true))) m2 := RC_mv R1 (RCq_eq Q2 (by simp only [c_n_n, c_n_nm, c_n_bt, c_n_be, c_n_ld, c_n_hs, c_n_kl, c_n_ol, c_n_pr, c_n_dr, c_n_ev, c_n_na, c_n_ak, c_n_ms, c_n_ck, c_n_cp, c_n_cu, c_n_cb, c_n_bg, c_nm_n, c_nm_nm, c_nm_bt, c_nm_be, c_nm_ld, c_nm_hs, c_nm_kl, c_nm_ol, c_nm_pr, c_nm_dr, c_nm_ev, c_nm_na, c_nm_ak, c_nm_ms, c_nm_ck, c_nm_cp, c_nm_cu, c_nm_cb, c_nm_bg, c_bt_n, c_bt_nm, c_bt_bt, c_bt_be, c_bt_ld, c_bt_hs, c_bt_kl, c_bt_ol, c_bt_pr, c_bt_dr, c_bt_ev, c_bt_na, c_bt_ak, c_bt_ms, c_bt_ck, c_bt_cp, c_bt_cu, c_bt_cb, c_bt_bg, c_be_n, c_be_nm, c_be_bt, c_be_be, c_be_ld, c_be_hs, c_be_kl, c_be_ol, c_be_pr, c_be_dr, c_be_ev, c_be_na, c_be_ak, c_be_ms, c_be_ck, c_be_cp, c_be_cu, c_be_cb, c_be_bg, c_ld_n, c_ld_nm, c_ld_bt, c_ld_be, c_ld_ld, c_ld_hs, c_ld_kl, c_ld_ol, c_ld_pr, c_ld_dr, c_ld_ev, c_ld_na, c_ld_ak, c_ld_ms, c_ld_ck, c_ld_cp, c_ld_cu, c_ld_cb, c_ld_bg, c_hs_n, c_hs_nm, c_hs_bt, c_hs_be, c_hs_ld, c_hs_hs, c_hs_kl, c_hs_ol, c_hs_pr, c_hs_dr, c_hs_ev, c_hs_na, c_hs_ak, c_hs_ms, c_hs_ck, c_hs_cp, c_hs_cu, c_hs_cb, c_hs_bg, c_kl_n, c_kl_nm, c_kl_bt, c_kl_be, c_kl_ld, c_kl_hs, c_kl_kl, c_kl_ol, c_kl_pr, c_kl_dr, c_kl_ev, c_kl_na, c_kl_ak, c_kl_ms, c_kl_ck, c_kl_cp, c_kl_cu, c_kl_cb, c_kl_bg, c_ol_n, c_ol_nm, c_ol_bt, c_ol_be, c_ol_ld, c_ol_hs, c_ol_kl, c_ol_ol, c_ol_pr, c_ol_dr, c_ol_ev, c_ol_na, c_ol_ak, c_ol_ms, c_ol_ck, c_ol_cp, c_ol_cu, c_ol_cb, c_ol_bg, c_pr_n, c_pr_nm, c_pr_bt, c_pr_be, c_pr_ld, c_pr_hs, c_pr_kl, c_pr_ol, c_pr_pr, c_pr_dr, c_pr_ev, c_pr_na, c_pr_ak, c_pr_ms, c_pr_ck, c_pr_cp, c_pr_cu, c_pr_cb, c_pr_bg, c_dr_n, c_dr_nm, c_dr_bt, c_dr_be, c_dr_ld, c_dr_hs, c_dr_kl, c_dr_ol, c_dr_pr, c_dr_dr, c_dr_ev, c_dr_na, c_dr_ak, c_dr_ms, c_dr_ck, c_dr_cp, c_dr_cu, c_dr_cb, c_dr_bg, c_ev_n, c_ev_nm, c_ev_bt, c_ev_be, c_ev_ld, c_ev_hs, c_ev_kl, c_ev_ol, c_ev_pr, c_ev_dr, c_ev_ev, c_ev_na, c_ev_ak, c_ev_ms, c_ev_ck, c_ev_cp, c_ev_cu, c_ev_cb, c_ev_bg, c_na_n, c_na_nm, c_na_bt, c_na_be, c_na_ld, c_na_hs, c_na_kl, c_na_ol, c_na_pr, c_na_dr, c_na_ev, c_na_na, c_na_ak, c_na_ms, c_na_ck, c_na_cp, c_na_cu, c_na_cb, c_na_bg, c_ak_n, c_ak_nm, c_ak_bt, c_ak_be, c_ak_ld, c_ak_hs, c_ak_kl, c_ak_ol, c_ak_pr, c_ak_dr, c_ak_ev, c_ak_na, c_ak_ak, c_ak_ms, c_ak_ck, c_ak_cp, c_ak_cu, c_ak_cb, c_ak_bg, c_ms_n, c_ms_nm, c_ms_bt, c_ms_be, c_ms_ld, c_ms_hs, c_ms_kl, c_ms_ol, c_ms_pr, c_ms_dr, c_ms_ev, c_ms_na, c_ms_ak, c_ms_ms, c_ms_ck, c_ms_cp, c_ms_cu, c_ms_cb, c_ms_bg, c_ck_n, c_ck_nm, c_ck_bt, c_ck_be, c_ck_ld, c_ck_hs, c_ck_kl, c_ck_ol, c_ck_pr, c_ck_dr, c_ck_ev, c_ck_na, c_ck_ak, c_ck_ms, c_ck_ck, c_ck_cp, c_ck_cu, c_ck_cb, c_ck_bg, c_cp_n, c_cp_nm, c_cp_bt, c_cp_be, c_cp_ld, c_cp_hs, c_cp_kl, c_cp_ol, c_cp_pr, c_cp_dr, c_cp_ev, c_cp_na, c_cp_ak, c_cp_ms, c_cp_ck, c_cp_cp, c_cp_cu, c_cp_cb, c_cp_bg, c_cu_n, c_cu_nm, c_cu_bt, c_cu_be, c_cu_ld, c_cu_hs, c_cu_kl, c_cu_ol, c_cu_pr, c_cu_dr, c_cu_ev, c_cu_na, c_cu_ak, c_cu_ms, c_cu_ck, c_cu_cp, c_cu_cu, c_cu_cb, c_cu_bg, c_cb_n, c_cb_nm, c_cb_bt, c_cb_be, c_cb_ld, c_cb_hs, c_cb_kl, c_cb_ol, c_cb_pr, c_cb_dr, c_cb_ev, c_cb_na, c_cb_ak, c_cb_ms, c_cb_ck, c_cb_cp, c_cb_cu, c_cb_cb, c_cb_bg, c_bg_n, c_bg_nm, c_bg_bt, c_bg_be, c_bg_ld, c_bg_hs, c_bg_kl, c_bg_ol, c_bg_pr, c_bg_dr, c_bg_ev, c_bg_na, c_bg_ak, c_bg_ms, c_bg_ck, c_bg_cp, c_bg_cu, c_bg_cb, c_bg_bg]) (by simp only [c_n_n, c_n_nm, c_n_bt, c_n_be, c_n_ld, c_n_hs, c_n_kl, c_n_ol, c_n_pr, c_n_dr, c_n_ev, c_n_na, c_n_ak, c_n_ms, c_n_ck, c_n_cp, c_n_cu, c_n_cb, c_n_bg, c_nm_n, c_nm_nm, c_nm_bt, c_nm_be, c_nm_ld, c_nm_hs, c_nm_kl, c_nm_ol, c_nm_pr, c_nm_dr, c_nm_ev, c_nm_na, c_nm_ak, c_nm_ms, c_nm_ck, c_nm_cp, c_nm_cu, c_nm_cb, c_nm_bg, c_bt_n, c_bt_nm, c_bt_bt, c_bt_be, c_bt_ld, c_bt_hs, c_bt_kl, c_bt_ol, c_bt_pr, c_bt_dr, c_bt_ev, c_bt_na, c_bt_ak, c_bt_ms, c_bt_ck, c_bt_cp, c_bt_cu, c_bt_cb, c_bt_bg, c_be_n, c_be_nm, c_be_bt, c_be_be, c_be_ld, c_be_hs, c_be_kl, c_be_ol, c_be_pr, c_be_dr, c_be_ev, c_be_na, c_be_ak, c_be_ms, c_be_ck, c_be_cp, c_be_cu, c_be_cb, c_be_bg, c_ld_n, c_ld_nm, c_ld_bt, c_ld_be, c_ld_ld, c_ld_hs, c_ld_kl, c_ld_ol, c_ld_pr, c_ld_dr, c_ld_ev, c_ld_na, c_ld_ak, c_ld_ms, c_ld_ck, c_ld_cp, c_ld_cu, c_ld_cb, c_ld_bg, c_hs_n, c_hs_nm, c_hs_bt, c_hs_be, c_hs_ld, c_hs_hs, c_hs_kl, c_hs_ol, c_hs_pr, c_hs_dr, c_hs_ev, c_hs_na, c_hs_ak, c_hs_ms, c_hs_ck, c_hs_cp, c_hs_cu, c_hs_cb, c_hs_bg, c_kl_n, c_kl_nm, c_kl_bt, c_kl_be, c_kl_ld, c_kl_hs, c_kl_kl, c_kl_ol, c_kl_pr, c_kl_dr, c_kl_ev, c_kl_na, c_kl_ak, c_kl_ms, c_kl_ck, c_kl_cp, c_kl_cu, c_kl_cb, c_kl_bg, c_ol_n, c_ol_nm, c_ol_bt, c_ol_be, c_ol_ld, c_ol_hs, c_ol_kl, c_ol_ol, c_ol_pr, c_ol_dr, c_ol_ev, c_ol_na, c_ol_ak, c_ol_ms, c_ol_ck, c_ol_cp, c_ol_cu, c_ol_cb, c_ol_bg, c_pr_n, c_pr_nm, c_pr_bt, c_pr_be, c_pr_ld, c_pr_hs, c_pr_kl, c_pr_ol, c_pr_pr, c_pr_dr, c_pr_ev, c_pr_na, c_pr_ak, c_pr_ms, c_pr_ck, c_pr_cp, c_pr_cu, c_pr_cb, c_pr_bg, c_dr_n, c_dr_nm, c_dr_bt, c_dr_be, c_dr_ld, c_dr_hs, c_dr_kl, c_dr_ol, c_dr_pr, c_dr_dr, c_dr_ev, c_dr_na, c_dr_ak, c_dr_ms, c_dr_ck, c_dr_cp, c_dr_cu, c_dr_cb, c_dr_bg, c_ev_n, c_ev_nm, c_ev_bt, c_ev_be, c_ev_ld, c_ev_hs, c_ev_kl, c_ev_ol, c_ev_pr, c_ev_dr, c_ev_ev, c_ev_na, c_ev_ak, c_ev_ms, c_ev_ck, c_ev_cp, c_ev_cu, c_ev_cb, c_ev_bg, c_na_n, c_na_nm, c_na_bt, c_na_be, c_na_ld, c_na_hs, c_na_kl, c_na_ol, c_na_pr, c_na_dr, c_na_ev, c_na_na, c_na_ak, c_na_ms, c_na_ck, c_na_cp, c_na_cu, c_na_cb, c_na_bg, c_ak_n, c_ak_nm, c_ak_bt, c_ak_be, c_ak_ld, c_ak_hs, c_ak_kl, c_ak_ol, c_ak_pr, c_ak_dr, c_ak_ev, c_ak_na, c_ak_ak, c_ak_ms, c_ak_ck, c_ak_cp, c_ak_cu, c_ak_cb, c_ak_bg, c_ms_n, c_ms_nm, c_ms_bt, c_ms_be, c_ms_ld, c_ms_hs, c_ms_kl, c_ms_ol, c_ms_pr, c_ms_dr, c_ms_ev, c_ms_na, c_ms_ak, c_ms_ms, c_ms_ck, c_ms_cp, c_ms_cu, c_ms_cb, c_ms_bg, c_ck_n, c_ck_nm, c_ck_bt, c_ck_be, c_ck_ld, c_ck_hs, c_ck_kl, c_ck_ol, c_ck_pr, c_ck_dr, c_ck_ev, c_ck_na, c_ck_ak, c_ck_ms, c_ck_ck, c_ck_cp, c_ck_cu, c_ck_cb, c_ck_bg, c_cp_n, c_cp_nm, c_cp_bt, c_cp_be, c_cp_ld, c_cp_hs, c_cp_kl, c_cp_ol, c_cp_pr, c_cp_dr, c_cp_ev, c_cp_na, c_cp_ak, c_cp_ms, c_cp_ck, c_cp_cp, c_cp_cu, c_cp_cb, c_cp_bg, c_cu_n, c_cu_nm, c_cu_bt, c_cu_be, c_cu_ld, c_cu_hs, c_cu_kl, c_cu_ol, c_cu_pr, c_cu_dr, c_cu_ev, c_cu_na, c_cu_ak, c_cu_ms, c_cu_ck, c_cu_cp, c_cu_cu, c_cu_cb, c_cu_bg, c_cb_n, c_cb_nm, c_cb_bt, c_cb_be, c_cb_ld, c_cb_hs, c_cb_kl, c_cb_ol, c_cb_pr, c_cb_dr, c_cb_ev, c_cb_na, c_cb_ak, c_cb_ms, c_cb_ck, c_cb_cp, c_cb_cu, c_cb_cb, c_cb_bg, c_bg_n, c_bg_nm, c_bg_bt, c_bg_be, c_bg_ld, c_bg_hs, c_bg_kl, c_bg_ol, c_bg_pr, c_bg_dr, c_bg_ev, c_bg_na, c_bg_ak, c_bg_ms, c_bg_ck, c_bg_cp, c_bg_cu, c_bg_cb, c_bg_bg]) (by simp only [c_n_n, c_n_nm, c_n_bt, c_n_be, c_n_ld, c_n_hs, c_n_kl, c_n_ol, c_n_pr, c_n_dr, c_n_ev, c_n_na, c_n_ak, c_n_ms, c_n_ck, c_n_cp, c_n_cu, c_n_cb, c_n_bg, c_nm_n, c_nm_nm, c_nm_bt, c_nm_be, c_nm_ld, c_nm_hs, c_nm_kl, c_nm_ol, c_nm_pr, c_nm_dr, c_nm_ev, c_nm_na, c_nm_ak, c_nm_ms, c_nm_ck, c_nm_cp, c_nm_cu, c_nm_cb, c_nm_bg, c_bt_n, c_bt_nm, c_bt_bt, c_bt_be, c_bt_ld, c_bt_hs, c_bt_kl, c_bt_ol, c_bt_pr, c_bt_dr, c_bt_ev, c_bt_na, c_bt_ak, c_bt_ms, c_bt_ck, c_bt_cp, c_bt_cu, c_bt_cb, c_bt_bg, c_be_n, c_be_nm, c_be_bt, c_be_be, c_be_ld, c_be_hs, c_be_kl, c_be_ol, c_be_pr, c_be_dr, c_be_ev, c_be_na, c_be_ak, c_be_ms, c_be_ck, c_be_cp, c_be_cu, c_be_cb, c_be_bg, c_ld_n, c_ld_nm, c_ld_bt, c_ld_be, c_ld_ld, c_ld_hs, c_ld_kl, c_ld_ol, c_ld_pr, c_ld_dr, c_ld_ev, c_ld_na, c_ld_ak, c_ld_ms, c_ld_ck, c_ld_cp, c_ld_cu, c_ld_cb, c_ld_bg, c_hs_n, c_hs_nm, c_hs_bt, c_hs_be, c_hs_ld, c_hs_hs, c_hs_kl, c_hs_ol, c_hs_pr, c_hs_dr, c_hs_ev, c_hs_na, c_hs_ak, c_hs_ms, c_hs_ck, c_hs_cp, c_hs_cu, c_hs_cb, c_hs_bg, c_kl_n, c_kl_nm, c_kl_bt, c_kl_be, c_kl_ld, c_kl_hs, c_kl_kl, c_kl_ol, c_kl_pr, c_kl_dr, c_kl_ev, c_kl_na, c_kl_ak, c_kl_ms, c_kl_ck, c_kl_cp, c_kl_cu, c_kl_cb, c_kl_bg, c_ol_n, c_ol_nm, c_ol_bt, c_ol_be, c_ol_ld, c_ol_hs, c_ol_kl, c_ol_ol, c_ol_pr, c_ol_dr, c_ol_ev, c_ol_na, c_ol_ak, c_ol_ms, c_ol_ck, c_ol_cp, c_ol_cu, c_ol_cb, c_ol_bg, c_pr_n, c_pr_nm, c_pr_bt, c_pr_be, c_pr_ld, c_pr_hs, c_pr_kl, c_pr_ol, c_pr_pr, c_pr_dr, c_pr_ev, c_pr_na, c_pr_ak, c_pr_ms, c_pr_ck, c_pr_cp, c_pr_cu, c_pr_cb, c_pr_bg, c_dr_n, c_dr_nm, c_dr_bt, c_dr_be, c_dr_ld, c_dr_hs, c_dr_kl, c_dr_ol, c_dr_pr, c_dr_dr, c_dr_ev, c_dr_na, c_dr_ak, c_dr_ms, c_dr_ck, c_dr_cp, c_dr_cu, c_dr_cb, c_dr_bg, c_ev_n, c_ev_nm, c_ev_bt, c_ev_be, c_ev_ld, c_ev_hs, c_ev_kl, c_ev_ol, c_ev_pr, c_ev_dr, c_ev_ev, c_ev_na, c_ev_ak, c_ev_ms, c_ev_ck, c_ev_cp, c_ev_cu, c_ev_cb, c_ev_bg, c_na_n, c_na_nm, c_na_bt, c_na_be, c_na_ld, c_na_hs, c_na_kl, c_na_ol, c_na_pr, c_na_dr, c_na_ev, c_na_na, c_na_ak, c_na_ms, c_na_ck, c_na_cp, c_na_cu, c_na_cb, c_na_bg, c_ak_n, c_ak_nm, c_ak_bt, c_ak_be, c_ak_ld, c_ak_hs, c_ak_kl, c_ak_ol, c_ak_pr, c_ak_dr, c_ak_ev, c_ak_na, c_ak_ak, c_ak_ms, c_ak_ck, c_ak_cp, c_ak_cu, c_ak_cb, c_ak_bg, c_ms_n, c_ms_nm, c_ms_bt, c_ms_be, c_ms_ld, c_ms_hs, c_ms_kl, c_ms_ol, c_ms_pr, c_ms_dr, c_ms_ev, c_ms_na, c_ms_ak, c_ms_ms, c_ms_ck, c_ms_cp, c_ms_cu, c_ms_cb, c_ms_bg, c_ck_n, c_ck_nm, c_ck_bt, c_ck_be, c_ck_ld, c_ck_hs, c_ck_kl, c_ck_ol, c_ck_pr, c_ck_dr, c_ck_ev, c_ck_na, c_ck_ak, c_ck_ms, c_ck_ck, c_ck_cp, c_ck_cu, c_ck_cb, c_ck_bg, c_cp_n, c_cp_nm, c_cp_bt, c_cp_be, c_cp_ld, c_cp_hs, c_cp_kl, c_cp_ol, c_cp_pr, c_cp_dr, c_cp_ev, c_cp_na, c_cp_ak, c_cp_ms, c_cp_ck, c_cp_cp, c_cp_cu, c_cp_cb, c_cp_bg, c_cu_n, c_cu_nm, c_cu_bt, c_cu_be, c_cu_ld, c_cu_hs, c_cu_kl, c_cu_ol, c_cu_pr, c_cu_dr, c_cu_ev, c_cu_na, c_cu_ak, c_cu_ms, c_cu_ck, c_cu_cp, c_cu_cu, c_cu_cb, c_cu_bg, c_cb_n, c_cb_nm, c_cb_bt, c_cb_be, c_cb_ld, c_cb_hs, c_cb_kl, c_cb_ol, c_cb_pr, c_cb_dr, c_cb_ev, c_cb_na, c_cb_ak, c_cb_ms, c_cb_ck, c_cb_cp, c_cb_cu, c_cb_cb, c_cb_bg, c_bg_n, c_bg_nm, c_bg_bt, c_bg_be, c_bg_ld, c_bg_hs, c_bg_kl, c_bg_ol, c_bg_pr, c_bg_dr, c_bg_ev, c_bg_na, c_bg_ak, c_bg_ms, c_bg_ck, c_bg_cp, c_bg_cu, c_bg_cb, c_bg_bg])) hf (by simp only [SEc, nop, plc, c_n_n, c_n_nm, c_n_bt, c_n_be, c_n_ld, c_n_hs, c_n_kl, c_n_ol, c_n_pr, c_n_dr, c_n_ev, c_n_na, c_n_ak, c_n_ms, c_n_ck, c_n_cp, c_n_cu, c_n_cb, c_n_bg, c_nm_n, c_nm_nm, c_nm_bt, c_nm_be, c_nm_ld, c_nm_hs, c_nm_kl, c_nm_ol, c_nm_pr, c_nm_dr, c_nm_ev, c_nm_na, c_nm_ak, c_nm_ms, c_nm_ck, c_nm_cp, c_nm_cu, c_nm_cb, c_nm_bg, c_bt_n, c_bt_nm, c_bt_bt, c_bt_be, c_bt_ld, c_bt_hs, c_bt_kl, c_bt_ol, c_bt_pr, c_bt_dr, c_bt_ev, c_bt_na, c_bt_ak, c_bt_ms, c_bt_ck, c_bt_cp, c_bt_cu, c_bt_cb, c_bt_bg, c_be_n, c_be_nm, c_be_bt, c_be_be, c_be_ld, c_be_hs, c_be_kl, c_be_ol, c_be_pr, c_be_dr, c_be_ev, c_be_na, c_be_ak, c_be_ms, c_be_ck, c_be_cp, c_be_cu, c_be_cb, c_be_bg, c_ld_n, c_ld_nm, c_ld_bt, c_ld_be, c_ld_ld, c_ld_hs, c_ld_kl, c_ld_ol, c_ld_pr, c_ld_dr, c_ld_ev, c_ld_na, c_ld_ak, c_ld_ms, c_ld_ck, c_ld_cp, c_ld_cu, c_ld_cb, c_ld_bg, c_hs_n, c_hs_nm, c_hs_bt, c_hs_be, c_hs_ld, c_hs_hs, c_hs_kl, c_hs_ol, c_hs_pr, c_hs_dr, c_hs_ev, c_hs_na, c_hs_ak, c_hs_ms, c_hs_ck, c_hs_cp, c_hs_cu, c_hs_cb, c_hs_bg, c_kl_n, c_kl_nm, c_kl_bt, c_kl_be, c_kl_ld, c_kl_hs, c_kl_kl, c_kl_ol, c_kl_pr, c_kl_dr, c_kl_ev, c_kl_na, c_kl_ak, c_kl_ms, c_kl_ck, c_kl_cp, c_kl_cu, c_kl_cb, c_kl_bg, c_ol_n, c_ol_nm, c_ol_bt, c_ol_be, c_ol_ld, c_ol_hs, c_ol_kl, c_ol_ol, c_ol_pr, c_ol_dr, c_ol_ev, c_ol_na, c_ol_ak, c_ol_ms, c_ol_ck, c_ol_cp, c_ol_cu, c_ol_cb, c_ol_bg, c_pr_n, c_pr_nm, c_pr_bt, c_pr_be, c_pr_ld, c_pr_hs, c_pr_kl, c_pr_ol, c_pr_pr, c_pr_dr, c_pr_ev, c_pr_na, c_pr_ak, c_pr_ms, c_pr_ck, c_pr_cp, c_pr_cu, c_pr_cb, c_pr_bg, c_dr_n, c_dr_nm, c_dr_bt, c_dr_be, c_dr_ld, c_dr_hs, c_dr_kl, c_dr_ol, c_dr_pr, c_dr_dr, c_dr_ev, c_dr_na, c_dr_ak, c_dr_ms, c_dr_ck, c_dr_cp, c_dr_cu, c_dr_cb, c_dr_bg, c_ev_n, c_ev_nm, c_ev_bt, c_ev_be, c_ev_ld, c_ev_hs, c_ev_kl, c_ev_ol, c_ev_pr, c_ev_dr, c_ev_ev, c_ev_na, c_ev_ak, c_ev_ms, c_ev_ck, c_ev_cp, c_ev_cu, c_ev_cb, c_ev_bg, c_na_n, c_na_nm, c_na_bt, c_na_be, c_na_ld, c_na_hs, c_na_kl, c_na_ol, c_na_pr, c_na_dr, c_na_ev, c_na_na, c_na_ak, c_na_ms, c_na_ck, c_na_cp, c_na_cu, c_na_cb, c_na_bg, c_ak_n, c_ak_nm, c_ak_bt, c_ak_be, c_ak_ld, c_ak_hs, c_ak_kl, c_ak_ol, c_ak_pr, c_ak_dr, c_ak_ev, c_ak_na, c_ak_ak, c_ak_ms, c_ak_ck, c_ak_cp, c_ak_cu, c_ak_cb, c_ak_bg, c_ms_n, c_ms_nm, c_ms_bt, c_ms_be, c_ms_ld, c_ms_hs, c_ms_kl, c_ms_ol, c_ms_pr, c_ms_dr, c_ms_ev, c_ms_na, c_ms_ak, c_ms_ms, c_ms_ck, c_ms_cp, c_ms_cu, c_ms_cb, c_ms_bg, c_ck_n, c_ck_nm, c_ck_bt, c_ck_be, c_ck_ld, c_ck_hs, c_ck_kl, c_ck_ol, c_ck_pr, c_ck_dr, c_ck_ev, c_ck_na, c_ck_ak, c_ck_ms, c_ck_ck, c_ck_cp, c_ck_cu, c_ck_cb, c_ck_bg, c_cp_n, c_cp_nm, c_cp_bt, c_cp_be, c_cp_ld, c_cp_hs, c_cp_kl, c_cp_ol, c_cp_pr, c_cp_dr, c_cp_ev, c_cp_na, c_cp_ak, c_cp_ms, c_cp_ck, c_cp_cp, c_cp_cu, c_cp_cb, c_cp_bg, c_cu_n, c_cu_nm, c_cu_bt, c_cu_be, c_cu_ld, c_cu_hs, c_cu_kl, c_cu_ol, c_cu_pr, c_cu_dr, c_cu_ev, c_cu_na, c_cu_ak, c_cu_ms, c_cu_ck, c_cu_cp, c_cu_cu, c_cu_cb, c_cu_bg, c_cb_n, c_cb_nm, c_cb_bt, c_cb_be, c_cb_ld, c_cb_hs, c_cb_kl, c_cb_ol, c_cb_pr, c_cb_dr, c_cb_ev, c_cb_na, c_cb_ak, c_cb_ms, c_cb_ck, c_cb_cp, c_cb_cu, c_cb_cb, c_cb_bg, c_bg_n, c_bg_nm, c_bg_bt, c_bg_be, c_bg_ld, c_bg_hs, c_bg_kl, c_bg_ol, c_bg_pr, c_bg_dr, c_bg_ev, c_bg_na, c_bg_ak, c_bg_ms, c_bg_ck, c_bg_cp, c_bg_cu, c_bg_cb, c_bg_bg, and_self]) (by simp only [c_n_n, c_n_nm, c_n_bt, c_n_be, c_n_ld, c_n_hs, c_n_kl, c_n_ol, c_n_pr, c_n_dr, c_n_ev, c_n_na, c_n_ak, c_n_ms, c_n_ck, c_n_cp, c_n_cu, c_n_cb, c_n_bg, c_nm_n, c_nm_nm, c_nm_bt, c_nm_be, c_nm_ld, c_nm_hs, c_nm_kl, c_nm_ol, c_nm_pr, c_nm_dr, c_nm_ev, c_nm_na, c_nm_ak, c_nm_ms, c_nm_ck, c_nm_cp, c_nm_cu, c_nm_cb, c_nm_bg, c_bt_n, c_bt_nm, c_bt_bt, c_bt_be, c_bt_ld, c_bt_hs, c_bt_kl, c_bt_ol, c_bt_pr, c_bt_dr, c_bt_ev, c_bt_na, c_bt_ak, c_bt_ms, c_bt_ck, c_bt_cp, c_bt_cu, c_bt_cb, c_bt_bg, c_be_n, c_be_nm, c_be_bt, c_be_be, c_be_ld, c_be_hs, c_be_kl, c_be_ol, c_be_pr, c_be_dr, c_be_ev, c_be_na, c_be_ak, c_be_ms, c_be_ck, c_be_cp, c_be_cu, c_be_cb, c_be_bg, c_ld_n, c_ld_nm, c_ld_bt, c_ld_be, c_ld_ld, c_ld_hs, c_ld_kl, c_ld_ol, c_ld_pr, c_ld_dr, c_ld_ev, c_ld_na, c_ld_ak, c_ld_ms, c_ld_ck, c_ld_cp, c_ld_cu, c_ld_cb, c_ld_bg, c_hs_n, c_hs_nm, c_hs_bt, c_hs_be, c_hs_ld, c_hs_hs, c_hs_kl, c_hs_ol, c_hs_pr, c_hs_dr, c_hs_ev, c_hs_na, c_hs_ak, c_hs_ms, c_hs_ck, c_hs_cp, c_hs_cu, c_hs_cb, c_hs_bg, c_kl_n, c_kl_nm, c_kl_bt, c_kl_be, c_kl_ld, c_kl_hs, c_kl_kl, c_kl_ol, c_kl_pr, c_kl_dr, c_kl_ev, c_kl_na, c_kl_ak, c_kl_ms, c_kl_ck, c_kl_cp, c_kl_cu, c_kl_cb, c_kl_bg, c_ol_n, c_ol_nm, c_ol_bt, c_ol_be, c_ol_ld, c_ol_hs, c_ol_kl, c_ol_ol, c_ol_pr, c_ol_dr, c_ol_ev, c_ol_na, c_ol_ak, c_ol_ms, c_ol_ck, c_ol_cp, c_ol_cu, c_ol_cb, c_ol_bg, c_pr_n, c_pr_nm, c_pr_bt, c_pr_be, c_pr_ld, c_pr_hs, c_pr_kl, c_pr_ol, c_pr_pr, c_pr_dr, c_pr_ev, c_pr_na, c_pr_ak, c_pr_ms, c_pr_ck, c_pr_cp, c_pr_cu, c_pr_cb, c_pr_bg, c_dr_n, c_dr_nm, c_dr_bt, c_dr_be, c_dr_ld, c_dr_hs, c_dr_kl, c_dr_ol, c_dr_pr, c_dr_dr, c_dr_ev, c_dr_na, c_dr_ak, c_dr_ms, c_dr_ck, c_dr_cp, c_dr_cu, c_dr_cb, c_dr_bg, c_ev_n, c_ev_nm, c_ev_bt, c_ev_be, c_ev_ld, c_ev_hs, c_ev_kl, c_ev_ol, c_ev_pr, c_ev_dr, c_ev_ev, c_ev_na, c_ev_ak, c_ev_ms, c_ev_ck, c_ev_cp, c_ev_cu, c_ev_cb, c_ev_bg, c_na_n, c_na_nm, c_na_bt, c_na_be, c_na_ld, c_na_hs, c_na_kl, c_na_ol, c_na_pr, c_na_dr, c_na_ev, c_na_na, c_na_ak, c_na_ms, c_na_ck, c_na_cp, c_na_cu, c_na_cb, c_na_bg, c_ak_n, c_ak_nm, c_ak_bt, c_ak_be, c_ak_ld, c_ak_hs, c_ak_kl, c_ak_ol, c_ak_pr, c_ak_dr, c_ak_ev, c_ak_na, c_ak_ak, c_ak_ms, c_ak_ck, c_ak_cp, c_ak_cu, c_ak_cb, c_ak_bg, c_ms_n, c_ms_nm, c_ms_bt, c_ms_be, c_ms_ld, c_ms_hs, c_ms_kl, c_ms_ol, c_ms_pr, c_ms_dr, c_ms_ev, c_ms_na, c_ms_ak, c_ms_ms, c_ms_ck, c_ms_cp, c_ms_cu, c_ms_cb, c_ms_bg, c_ck_n, c_ck_nm, c_ck_bt, c_ck_be, c_ck_ld, c_ck_hs, c_ck_kl, c_ck_ol, c_ck_pr, c_ck_dr, c_ck_ev, c_ck_na, c_ck_ak, c_ck_ms, c_ck_ck, c_ck_cp, c_ck_cu, c_ck_cb, c_ck_bg, c_cp_n, c_cp_nm, c_cp_bt, c_cp_be, c_cp_ld, c_cp_hs, c_cp_kl, c_cp_ol, c_cp_pr, c_cp_dr, c_cp_ev, c_cp_na, c_cp_ak, c_cp_ms, c_cp_ck, c_cp_cp, c_cp_cu, c_cp_cb, c_cp_bg, c_cu_n, c_cu_nm, c_cu_bt, c_cu_be, c_cu_ld, c_cu_hs, c_cu_kl, c_cu_ol, c_cu_pr, c_cu_dr, c_cu_ev, c_cu_na, c_cu_ak, c_cu_ms, c_cu_ck, c_cu_cp, c_cu_cu, c_cu_cb, c_cu_bg, c_cb_n, c_cb_nm, c_cb_bt, c_cb_be, c_cb_ld, c_cb_hs, c_cb_kl, c_cb_ol, c_cb_pr, c_cb_dr, c_cb_ev, c_cb_na, c_cb_ak, c_cb_ms, c_cb_ck, c_cb_cp, c_cb_cu, c_cb_cb, c_cb_bg, c_bg_n, c_bg_nm, c_bg_bt, c_bg_be, c_bg_ld, c_bg_hs, c_bg_kl, c_bg_ol, c_bg_pr, c_bg_dr, c_bg_ev, c_bg_na, c_bg_ak, c_bg_ms, c_bg_ck, c_bg_cp, c_bg_cu, c_bg_cb, c_bg_bg, and_self])
    have h2'' := (RC_askget R2 hk).1
    have R3 : RC (c_ak_ (c_pr_ s (up1 (c_pr s) u (ins (c_pr s u) (a_lo (c_ak s k)) (a_va (c_ak s k))))) (up1 (c_ak (c_pr_ s (up1 (c_pr s) u (ins (c_pr s u) (a_lo (c_ak s k)) (a_va (c_ak s k)))))) k (a_an_ (a_dn_ (c_ak s k) true) 1))) (finM m2 k 1) := RC_ask2 R2 (fin_fr _ _ _) (RC2_fin h2'') (AKo_fin ho)
    have e1 : go 3 0 [some (vr 1 (some k)), some (vi 1)] [] m2 = some (none, finM m2 k 1) := go_finish
    refine ⟨finM m2 k 1, 0, base _ ?_, Or.inl trivial, R3, fK_tr K1 (fK_tr (fK_fr hf QP_K) (fK_fr (fin_fr _ _ _) QS_K))⟩
    rw [e, show nI 3 = 3 from rfl]
    simp only [s71_0, s71_1, s71_4, s71_7, s71_8, s71_11, s71_12, s71_13, s71_14, s71_15b0, s71_15b1, s71_18, s71_19, s71_22_0, s71_22_1, s71_22_2, s71_22_3, s71_22_4, s71_22_d, s71_56, s71_57, s71_58, s71_61, s71_64, s71_65, s71_66, s71_67, s71_70, s71_71, s71_74, s71_75, s71_78, s71_81, s71_82, s71_83, s71_86, s71_87, s71_88, s71_89, s71_90, s71_93, s71_96, s71_97, s71_98, s71_99, s71_100, s71_103, eq_self, ixk_some, bd_some, nl_n, nl_i, nl_r, Option.toList_some, Option.toList_none, List.cons_append, List.nil_append, g9, g2, g4, b1, e1]
  · simp only [e, Nat.reduceEqDiff, if_true, if_false]
    obtain ⟨m2, b1, b2, b3⟩ := go_fetch R1 hk hu hs ho
    refine ⟨m2, 0, base _ ?_, Or.inl trivial, b2, fK_tr K1 b3⟩
    rw [e, show nI 4 = 4 from rfl]
    simp only [s71_0, s71_1, s71_4, s71_7, s71_8, s71_11, s71_12, s71_13, s71_14, s71_15b0, s71_15b1, s71_18, s71_19, s71_22_0, s71_22_1, s71_22_2, s71_22_3, s71_22_4, s71_22_d, s71_56, s71_57, s71_58, s71_61, s71_64, s71_65, s71_66, s71_67, s71_70, s71_71, s71_74, s71_75, s71_78, s71_81, s71_82, s71_83, s71_86, s71_87, s71_88, s71_89, s71_90, s71_93, s71_96, s71_97, s71_98, s71_99, s71_100, s71_103, eq_self, ixk_some, bd_some, nl_n, nl_i, nl_r, Option.toList_some, Option.toList_none, List.cons_append, List.nil_append, g9, b1]
  · simp only [e, Nat.reduceEqDiff, if_false]
    obtain ⟨m2, t, b1, b2, b3, b4⟩ := go_goAlong R1 hcl hk hu hnt
    refine ⟨m2, t, base _ ?_, b2, b3, fK_tr K1 b4⟩
    rw [e, show nI 1 = 1 from rfl]
    simp only [s71_0, s71_1, s71_4, s71_7, s71_8, s71_11, s71_12, s71_13, s71_14, s71_15b0, s71_15b1, s71_18, s71_19, s71_22_0, s71_22_1, s71_22_2, s71_22_3, s71_22_4, s71_22_d, s71_56, s71_57, s71_58, s71_61, s71_64, s71_65, s71_66, s71_67, s71_70, s71_71, s71_74, s71_75, s71_78, s71_81, s71_82, s71_83, s71_86, s71_87, s71_88, s71_89, s71_90, s71_93, s71_96, s71_97, s71_98, s71_99, s71_100, s71_103, eq_self, ixk_some, bd_some, nl_n, nl_i, nl_r, Option.toList_some, Option.toList_none, List.cons_append, List.nil_append, b1]
  · simp only [e, Nat.reduceEqDiff, if_false]
    obtain ⟨m2, t, b1, b2, b3, b4⟩ := go_goAlong R1 hcl hk hu hnt
    refine ⟨m2, t, base _ ?_, b2, b3, fK_tr K1 b4⟩
    rw [e, show nI 2 = 2 from rfl]
    simp only [s71_0, s71_1, s71_4, s71_7, s71_8, s71_11, s71_12, s71_13, s71_14, s71_15b0, s71_15b1, s71_18, s71_19, s71_22_0, s71_22_1, s71_22_2, s71_22_3, s71_22_4, s71_22_d, s71_56, s71_57, s71_58, s71_61, s71_64, s71_65, s71_66, s71_67, s71_70, s71_71, s71_74, s71_75, s71_78, s71_81, s71_82, s71_83, s71_86, s71_87, s71_88, s71_89, s71_90, s71_93, s71_96, s71_97, s71_98, s71_99, s71_100, s71_103, eq_self, ixk_some, bd_some, nl_n, nl_i, nl_r, Option.toList_some, Option.toList_none, List.cons_append, List.nil_append, b1]
/-- what must hold of an ask whose message is taken -/
def GAs (s : ST) (k u : Nat) : Prop := k < c_na s ∧ u < c_n s ∧ srt (c_pr s u) ∧ (a_so (c_ak s k) = 3 → (ins (c_pr s u) (a_lo (c_ak s k)) (a_va (c_ak s k))).length ≤ 16) ∧ a_ps (c_ak s k) + 1 < 2 ^ 30 ∧ a_nt (c_ak s k) + 1 < 2 ^ 30 ∧ a_dn (c_ak s k) = false ∧ (c_ms s).length < 192
theorem go_endpart {s : ST} {m : MM} {k u t : Nat} (h : RC s m) (hcl : CLs s) (hk : k < c_na s) (hu : u < c_n s) (hs : srt (c_pr s u)) (hput : a_so (c_ak s k) = 3 → (ins (c_pr s u) (a_lo (c_ak s k)) (a_va (c_ak s k))).length ≤ 16) (hnt : a_nt (c_ak s k) + 1 < 2 ^ 30) (hlen : (c_ms s).length < 192) (hw : awy s u = false) :
    ∃ m', go 70 36 [some (vr 7 (some 0)), some (vr 1 (some k)), some (vr 6 (some u)), some (vr t none)] [] m = some (none, m') ∧ RC (isThere s k u) m' ∧ fK m m' := by
  obtain ⟨m1, t1, b1, b2, b3, b4⟩ := go_ended h hcl hk hu hs hput hnt hw
  obtain ⟨e1, e2⟩ := ended_f s k u
  rw [isThere_eq]
  generalize ended s k u = E at *
  obtain ⟨s1, o⟩ := E
  cases o with
  | none => 
    refine ⟨m1, ?_, b3, b4⟩
    simp only [s70_36, s70_37, s70_38, s70_41i, s70_41r, s70_41n, s70_42, s70_43n, s70_43s, s70_55, eq_self, ixk_some, bd_some, nl_n, nl_i, nl_r, Option.toList_some, Option.toList_none, List.cons_append, List.nil_append, b1]
  | some r => 
    have t6 : t1 = 6 := by
      rcases b2 with z | z
      · cases z
      · exact z
    subst t6
    obtain ⟨m2, d1, d2, d3⟩ := go_addAsk (k := k) (p := r) b3 (by show k < c_na s1; rw [show c_na s1 = c_na s from e2]; exact hk) (by rw [show c_ms s1 = c_ms s from e1]; exact hlen)
    refine ⟨m2, ?_, d2, fK_tr b4 d3⟩
    have k1 := b3.2.2.2.2.1.1
    simp only [s70_36, s70_37, s70_38, s70_41i, s70_41r, s70_41n, s70_42, s70_43n, s70_43s, s70_46, s70_47, s70_50, s70_51, s70_52, s70_55, eq_self, ixk_some, bd_some, nl_n, nl_i, nl_r, Option.toList_some, Option.toList_none, List.cons_append, List.nil_append, b1, k1, d1]
theorem aml_ak (s : ST) (F : Nat → AK) (u : Nat) (x : Int32) (d : Nat) : ∀ n, aml (c_ak_ s F) u x d n = aml s u x d n
  | 0 => rfl
  | n + 1 => by
    show (match lnk s u n d with | some p => if (if d = 1 then c_nm s p ≤ x else x ≤ c_nm s p) then some p else aml (c_ak_ s F) u x d n | none => aml (c_ak_ s F) u x d n) = _
    rw [aml_ak s F u x d n]
    rfl
theorem onw_ak (s : ST) (F : Nat → AK) (u : Nat) (x : Int32) : onw (c_ak_ s F) u x = onw s u x := by
  unfold onw
  rw [aml_ak, aml_ak]
  rfl
theorem psA_f (a : AK) (u : Nat) : a_so (psA a u) = a_so a ∧ a_lo (psA a u) = a_lo a ∧ a_va (psA a u) = a_va a ∧ a_th (psA a u) = a_th a ∧ a_dn (psA a u) = a_dn a ∧ a_nt (psA a u) = a_nt a := by
  unfold psA
  by_cases h : a_ps a < 40
  · rw [if_pos h]; exact ⟨rfl, rfl, rfl, rfl, rfl, rfl⟩
  · rw [if_neg h]; exact ⟨rfl, rfl, rfl, rfl, rfl, rfl⟩
theorem comesAsk_eq (s : ST) (k u : Nat) : comesAsk s k u = if a_th (c_ak s k) = true ∧ awy s u = false then isThere (c_ak_ s (up1 (c_ak s) k (psA (c_ak s k) u))) k u else match onw s u (a_lo (c_ak s k)) with
    | some p => snda (c_ak_ s (up1 (c_ak s) k (psA (c_ak s k) u))) k p
    | none => if awy s u = true then endA (c_ak_ (c_ak_ s (up1 (c_ak s) k (psA (c_ak s k) u))) (up1 (up1 (c_ak s) k (psA (c_ak s k) u)) k (a_lt_ (psA (c_ak s k) u) true))) k (-4) else isThere (c_ak_ s (up1 (c_ak s) k (psA (c_ak s k) u))) k u := by
  obtain ⟨p1, p2, p3, p4, p5, p6⟩ := psA_f (c_ak s k) u
  show (if a_th (psA (c_ak s k) u) = true ∧ awy s u = false then isThere (c_ak_ s (up1 (c_ak s) k (psA (c_ak s k) u))) k u else match onw (c_ak_ s (up1 (c_ak s) k (psA (c_ak s k) u))) u (a_lo (psA (c_ak s k) u)) with
    | some p => snda (c_ak_ s (up1 (c_ak s) k (psA (c_ak s k) u))) k p
    | none => if awy s u = true then endA (c_ak_ (c_ak_ s (up1 (c_ak s) k (psA (c_ak s k) u))) (up1 (up1 (c_ak s) k (psA (c_ak s k) u)) k (a_lt_ (psA (c_ak s k) u) true))) k (-4) else isThere (c_ak_ s (up1 (c_ak s) k (psA (c_ak s k) u))) k u) = _
  rw [p4, p2, onw_ak]
theorem go_askComes {s : ST} {m : MM} {k u : Nat} (h : RC s m) (hcl : CLs s) (hg : GAs s k u) :
    ∃ m', go 70 0 [some (vr 7 (some 0)), some (vr 1 (some k)), some (vr 6 (some u)), none] [] m = some (none, m') ∧ RC (comesAsk s k u) m' ∧ fK m m' := by
  have hg' := hg
  obtain ⟨hk, hu, hs, hput, hps, hnt, hdn, hlen⟩ := hg'
  have h2 := h.2.2.2.1.2.2.2.2.2.1 k hk
  have ho := h.2.2.2.1.2.2.2.2.2.2 k hk
  have hu32 : u < 32 := by
    have : c_n s ≤ 32 := h.1.1
    omega
  obtain ⟨p1, p2, p3, p4, p5, p6⟩ := psA_f (c_ak s k) u
  obtain ⟨m1, b1, b2, b3, b4⟩ := go_pass (u := u) h2 ho (h.1.2.2.2.2.2.2 u hu).1 hu32 hps
  have R1 := RC_ask h b4 b2 b3
  have K1 : fK m m1 := fK_fr b4 QS_K
  rw [comesAsk_eq]
  have eA : c_ak (c_ak_ s (up1 (c_ak s) k (psA (c_ak s k) u))) k = psA (c_ak s k) u := up1_get _ _ _
  generalize hs1 : c_ak_ s (up1 (c_ak s) k (psA (c_ak s k) u)) = s1 at *
  have en : c_n s1 = c_n s := by rw [← hs1]; rfl
  have ena : c_na s1 = c_na s := by rw [← hs1]; rfl
  have epr : c_pr s1 = c_pr s := by rw [← hs1]; rfl
  have ems : c_ms s1 = c_ms s := by rw [← hs1]; rfl
  have eaw : awy s1 u = awy s u := by rw [← hs1]; rfl
  have eon : onw s1 u (a_lo (c_ak s k)) = onw s u (a_lo (c_ak s k)) := by rw [← hs1]; exact onw_ak _ _ _ _
  have hcl1 : CLs s1 := by rw [← hs1]; exact hcl
  have eak : up1 (c_ak s) k (psA (c_ak s k) u) = c_ak s1 := by rw [← hs1]; rfl
  have hput1 : a_so (c_ak s1 k) = 3 → (ins (c_pr s1 u) (a_lo (c_ak s1 k)) (a_va (c_ak s1 k))).length ≤ 16 := by rw [eA, epr, p1, p2, p3]; exact hput
  have fin : ∀ t, awy s u = false → ∃ m', go 70 36 [some (vr 7 (some 0)), some (vr 1 (some k)), some (vr 6 (some u)), some (vr t none)] [] m1 = some (none, m') ∧ RC (isThere s1 k u) m' ∧ fK m m' := by
    intro t hw
    obtain ⟨m2, d1, d2, d3⟩ := go_endpart (t := t) R1 hcl1 (by rw [ena]; exact hk) (by rw [en]; exact hu) (by rw [epr]; exact hs) hput1 (by rw [eA, p6]; exact hnt) (by rw [ems]; exact hlen) (by rw [eaw]; exact hw)
    exact ⟨m2, d1, d2, fK_tr K1 d3⟩
  have a0 := go_isAway R1.1 (by rw [en]; exact hu)
  rw [eaw] at a0
  have g5 := b2.2.2.2.2.2.1 (by rw [p5]; exact hdn)
  rw [p4] at g5
  have g2 := b2.2.2.1
  rw [p2] at g2
  obtain ⟨t, c1, c2⟩ := go_onward (x := a_lo (c_ak s k)) R1.1 hcl1 (by rw [en]; exact hu)
  rw [eon] at c1 c2
  have k1 := R1.2.2.2.2.1.1
  by_cases hth : a_th (c_ak s k) = true ∧ awy s u = false
  · rw [if_pos hth]
    obtain ⟨m2, d1, d2⟩ := fin 0 hth.2
    refine ⟨m2, ?_, d2⟩
    rw [hth.2, b2_f] at a0
    rw [hth.1, b2_t] at g5
    rw [← d1]
    simp [s70_0, s70_1, s70_2, s70_5, s70_6, s70_9, s70_12, s70_13, s70_16, s70_30, s70_31i, s70_31r, s70_31n, s70_32, s70_33n, s70_33s, eq_self, ixk_some, bd_some, nl_n, nl_i, nl_r, Option.toList_some, Option.toList_none, List.cons_append, List.nil_append, b1, a0, g5]
  · rw [if_neg hth]
    have via : ∀ r, go 70 31 [some (vr 7 (some 0)), some (vr 1 (some k)), some (vr 6 (some u)), none] [vr t (onw s u (a_lo (c_ak s k)))] m1 = r → go 70 0 [some (vr 7 (some 0)), some (vr 1 (some k)), some (vr 6 (some u)), none] [] m = r := by
      intro r hr
      rw [← hr]
      cases hw : awy s u
      · rw [hw, b2_f] at a0
        have : a_th (c_ak s k) = false := by
          cases hx : a_th (c_ak s k)
          · rfl
          · exact absurd ⟨hx, hw⟩ hth
        rw [this, b2_f] at g5
        simp [s70_0, s70_1, s70_2, s70_5, s70_6, s70_9, s70_12, s70_13, s70_16, s70_19, s70_20, s70_21, s70_24, s70_27, eq_self, ixk_some, bd_some, nl_n, nl_i, nl_r, Option.toList_some, Option.toList_none, List.cons_append, List.nil_append, b1, a0, g5, g2, c2]
      · rw [hw, b2_t] at a0
        simp [s70_0, s70_1, s70_2, s70_5, s70_6, s70_9, s70_12, s70_13, s70_16, s70_19, s70_20, s70_21, s70_24, s70_27, eq_self, ixk_some, bd_some, nl_n, nl_i, nl_r, Option.toList_some, Option.toList_none, List.cons_append, List.nil_append, b1, a0, g2, c2]
    cases ho' : onw s u (a_lo (c_ak s k)) with
    | some p => 
      rw [ho'] at c1 via
      have t6 : t = 6 := by
        rcases c1 with z | z
        · cases z
        · exact z
      subst t6
      obtain ⟨m2, d1, d2, d3⟩ := go_addAsk (k := k) (p := p) R1 (by rw [ena]; exact hk) (by rw [ems]; exact hlen)
      refine ⟨m2, via _ ?_, d2, fK_tr K1 d3⟩
      simp only [s70_31i, s70_31r, s70_31n, s70_32, s70_33n, s70_33s, s70_42, s70_43n, s70_43s, s70_46, s70_47, s70_50, s70_51, s70_52, s70_55, eq_self, ixk_some, bd_some, nl_n, nl_i, nl_r, Option.toList_some, Option.toList_none, List.cons_append, List.nil_append, k1, d1]
    | none => 
      rw [ho'] at via
      cases hw : awy s u
      · obtain ⟨m2, d1, d2⟩ := fin t hw
        simp only [Bool.false_eq_true, if_false]
        refine ⟨m2, via _ ?_, d2⟩
        rw [← d1]
        simp only [s70_31i, s70_31r, s70_31n, s70_32, s70_33n, s70_33s, eq_self, ixk_some, bd_some, nl_n, nl_i, nl_r, Option.toList_some, Option.toList_none, List.cons_append, List.nil_append]
      · rw [hw, b2_t] at a0
        simp only [if_true]
        obtain ⟨m2, d1, d2, d3⟩ := go_lose (k := k) R1 (by rw [ena]; exact hk)
        rw [eA] at d2
        refine ⟨m2, via _ ?_, by rw [eak]; exact d2, fK_tr K1 d3⟩
        have e1 : go 71 0 [some (vr 1 (some k)), some (vr 6 (some u))] [] m1 = some (some (vr 0 none), m2) := by
          simp [s71_0, s71_1, s71_4, s71_7, s71_8, s71_11, s71_12, eq_self, ixk_some, bd_some, nl_n, nl_i, nl_r, Option.toList_some, Option.toList_none, List.cons_append, List.nil_append, a0, d1]
        simp only [s70_31i, s70_31r, s70_31n, s70_32, s70_33n, s70_33s, s70_36, s70_37, s70_38, s70_41i, s70_41r, s70_41n, s70_42, s70_43n, s70_43s, s70_55, eq_self, ixk_some, bd_some, nl_n, nl_i, nl_r, Option.toList_some, Option.toList_none, List.cons_append, List.nil_append, e1]
