/-! the class: take, deliver, all -/
def QZ : Nat → Nat → Prop := fun r _ => 1 ≤ r ∧ r ≤ 18 ∧ r ≠ 8
theorem fz_fK {m m' : MM} (h : fK m m') : fg QZ m m' := fg_le h.1 (fun r n z => ⟨z.1, z.2.1, z.2.2.1⟩)
def tkn (s : ST) (i : Nat) (g : MSG) : ST := c_ld_ (c_ms_ s ((c_ms s).eraseIdx i)) (up1 (c_ld s) (g_to g) (c_ld s (g_to g) + 1))
def TK (s : ST) (i : Nat) (g : MSG) : Prop := CLs s ∧ g_to g < c_n s ∧ (∀ k, g_as g = some k → GAs (tkn s i g) k (g_to g)) ∧ (g_as g = none → GCh (tkn s i g) g ∧ (c_ms (tkn s i g)).length + 3 ≤ 192 ∧ c_cp (comesCh (tkn s i g) g) < c_n (comesCh (tkn s i g) g) ∧ (c_cu (comesCh (tkn s i g) g) = true → c_ck (comesCh (tkn s i g) g) = 3) ∧ (c_ms (comesCh (tkn s i g) g)).length < 192)
theorem come_eq {s : ST} {i : Nat} {g : MSG} (h : (c_ms s)[i]? = some g) : come s i = match g_as g with | some k => comesAsk (tkn s i g) k (g_to g) | none => looks (comesCh (tkn s i g) g) := by
  unfold come
  rw [h]
  rfl
theorem go_take {s : ST} {m : MM} {i : Nat} {g : MSG} (h : RC s m) (hg : (c_ms s)[i]? = some g) (ht : TK s i g) :
    ∃ m', go 69 0 [some (vr 7 (some 0)), some (vi (nI i)), none] [] m = some (some (vi (nI (g_so g))), m') ∧ RC (come s i) m' ∧ fg QZ m m' := by
  obtain ⟨hcl, hto, hA, hN⟩ := ht
  obtain ⟨m1, n, a1, a2, a3, a4, a5, a6⟩ := go_takeAway h.2.2.2.2.1 h.2.2.2.2.2.2.1 hg
  have q : ∀ r k, (r = 3 ∨ r = 11) ∧ k = 0 → r = 3 ∨ r = 11 := fun r k z => z.1
  have R1 : RC (c_ms_ s ((c_ms s).eraseIdx i)) m1 := ⟨RCp_fr h.1 a6 (fun r n z => by have := z.1; omega), RCc_fr h.2.1 a6 (fun r n z => by have := z.1; omega), RCk_fr h.2.2.1 a6 (fun r n z => by have := z.1; omega), RCa_fr h.2.2.2.1 a6 (fun r n z => by have := z.1; omega), a4, RCq_fr h.2.2.2.2.2.1 a6 (fun r n z => by have := z.1; omega), a5, RCn_fr h.2.2.2.2.2.2.2 a6⟩
  have Z1 : fg QZ m m1 := fg_fr (fr_le a6 (fun r n z => ⟨by have := z.1; omega, by have := z.1; omega, by have := z.1; omega⟩))
  have F2 : fr (QE (g_to g)) m1 (sI m1 6 (g_to g) 4 (c_ld s (g_to g) + 1)) := fr_sI m1 _ ⟨Or.inl rfl, rfl⟩
  have R2 : RC (tkn s i g) (sI m1 6 (g_to g) 4 (c_ld s (g_to g) + 1)) := RC_P R1 (RCp_ld R1.1) F2 QE_P (by simp only [SEr, tkn, c_n_n, c_n_nm, c_n_bt, c_n_be, c_n_ld, c_n_hs, c_n_kl, c_n_ol, c_n_pr, c_n_dr, c_n_ev, c_n_na, c_n_ak, c_n_ms, c_n_ck, c_n_cp, c_n_cu, c_n_cb, c_n_bg, c_nm_n, c_nm_nm, c_nm_bt, c_nm_be, c_nm_ld, c_nm_hs, c_nm_kl, c_nm_ol, c_nm_pr, c_nm_dr, c_nm_ev, c_nm_na, c_nm_ak, c_nm_ms, c_nm_ck, c_nm_cp, c_nm_cu, c_nm_cb, c_nm_bg, c_bt_n, c_bt_nm, c_bt_bt, c_bt_be, c_bt_ld, c_bt_hs, c_bt_kl, c_bt_ol, c_bt_pr, c_bt_dr, c_bt_ev, c_bt_na, c_bt_ak, c_bt_ms, c_bt_ck, c_bt_cp, c_bt_cu, c_bt_cb, c_bt_bg, c_be_n, c_be_nm, c_be_bt, c_be_be, c_be_ld, c_be_hs, c_be_kl, c_be_ol, c_be_pr, c_be_dr, c_be_ev, c_be_na, c_be_ak, c_be_ms, c_be_ck, c_be_cp, c_be_cu, c_be_cb, c_be_bg, c_ld_n, c_ld_nm, c_ld_bt, c_ld_be, c_ld_ld, c_ld_hs, c_ld_kl, c_ld_ol, c_ld_pr, c_ld_dr, c_ld_ev, c_ld_na, c_ld_ak, c_ld_ms, c_ld_ck, c_ld_cp, c_ld_cu, c_ld_cb, c_ld_bg, c_hs_n, c_hs_nm, c_hs_bt, c_hs_be, c_hs_ld, c_hs_hs, c_hs_kl, c_hs_ol, c_hs_pr, c_hs_dr, c_hs_ev, c_hs_na, c_hs_ak, c_hs_ms, c_hs_ck, c_hs_cp, c_hs_cu, c_hs_cb, c_hs_bg, c_kl_n, c_kl_nm, c_kl_bt, c_kl_be, c_kl_ld, c_kl_hs, c_kl_kl, c_kl_ol, c_kl_pr, c_kl_dr, c_kl_ev, c_kl_na, c_kl_ak, c_kl_ms, c_kl_ck, c_kl_cp, c_kl_cu, c_kl_cb, c_kl_bg, c_ol_n, c_ol_nm, c_ol_bt, c_ol_be, c_ol_ld, c_ol_hs, c_ol_kl, c_ol_ol, c_ol_pr, c_ol_dr, c_ol_ev, c_ol_na, c_ol_ak, c_ol_ms, c_ol_ck, c_ol_cp, c_ol_cu, c_ol_cb, c_ol_bg, c_pr_n, c_pr_nm, c_pr_bt, c_pr_be, c_pr_ld, c_pr_hs, c_pr_kl, c_pr_ol, c_pr_pr, c_pr_dr, c_pr_ev, c_pr_na, c_pr_ak, c_pr_ms, c_pr_ck, c_pr_cp, c_pr_cu, c_pr_cb, c_pr_bg, c_dr_n, c_dr_nm, c_dr_bt, c_dr_be, c_dr_ld, c_dr_hs, c_dr_kl, c_dr_ol, c_dr_pr, c_dr_dr, c_dr_ev, c_dr_na, c_dr_ak, c_dr_ms, c_dr_ck, c_dr_cp, c_dr_cu, c_dr_cb, c_dr_bg, c_ev_n, c_ev_nm, c_ev_bt, c_ev_be, c_ev_ld, c_ev_hs, c_ev_kl, c_ev_ol, c_ev_pr, c_ev_dr, c_ev_ev, c_ev_na, c_ev_ak, c_ev_ms, c_ev_ck, c_ev_cp, c_ev_cu, c_ev_cb, c_ev_bg, c_na_n, c_na_nm, c_na_bt, c_na_be, c_na_ld, c_na_hs, c_na_kl, c_na_ol, c_na_pr, c_na_dr, c_na_ev, c_na_na, c_na_ak, c_na_ms, c_na_ck, c_na_cp, c_na_cu, c_na_cb, c_na_bg, c_ak_n, c_ak_nm, c_ak_bt, c_ak_be, c_ak_ld, c_ak_hs, c_ak_kl, c_ak_ol, c_ak_pr, c_ak_dr, c_ak_ev, c_ak_na, c_ak_ak, c_ak_ms, c_ak_ck, c_ak_cp, c_ak_cu, c_ak_cb, c_ak_bg, c_ms_n, c_ms_nm, c_ms_bt, c_ms_be, c_ms_ld, c_ms_hs, c_ms_kl, c_ms_ol, c_ms_pr, c_ms_dr, c_ms_ev, c_ms_na, c_ms_ak, c_ms_ms, c_ms_ck, c_ms_cp, c_ms_cu, c_ms_cb, c_ms_bg, c_ck_n, c_ck_nm, c_ck_bt, c_ck_be, c_ck_ld, c_ck_hs, c_ck_kl, c_ck_ol, c_ck_pr, c_ck_dr, c_ck_ev, c_ck_na, c_ck_ak, c_ck_ms, c_ck_ck, c_ck_cp, c_ck_cu, c_ck_cb, c_ck_bg, c_cp_n, c_cp_nm, c_cp_bt, c_cp_be, c_cp_ld, c_cp_hs, c_cp_kl, c_cp_ol, c_cp_pr, c_cp_dr, c_cp_ev, c_cp_na, c_cp_ak, c_cp_ms, c_cp_ck, c_cp_cp, c_cp_cu, c_cp_cb, c_cp_bg, c_cu_n, c_cu_nm, c_cu_bt, c_cu_be, c_cu_ld, c_cu_hs, c_cu_kl, c_cu_ol, c_cu_pr, c_cu_dr, c_cu_ev, c_cu_na, c_cu_ak, c_cu_ms, c_cu_ck, c_cu_cp, c_cu_cu, c_cu_cb, c_cu_bg, c_cb_n, c_cb_nm, c_cb_bt, c_cb_be, c_cb_ld, c_cb_hs, c_cb_kl, c_cb_ol, c_cb_pr, c_cb_dr, c_cb_ev, c_cb_na, c_cb_ak, c_cb_ms, c_cb_ck, c_cb_cp, c_cb_cu, c_cb_cb, c_cb_bg, c_bg_n, c_bg_nm, c_bg_bt, c_bg_be, c_bg_ld, c_bg_hs, c_bg_kl, c_bg_ol, c_bg_pr, c_bg_dr, c_bg_ev, c_bg_na, c_bg_ak, c_bg_ms, c_bg_ck, c_bg_cp, c_bg_cu, c_bg_cb, c_bg_bg, and_self])
  have K2 := fK_fr F2 QE_K
  have M2 := RC3_fK a2 K2 a3
  have lt2 : mR (sI m1 6 (g_to g) 4 (c_ld s (g_to g) + 1)) 3 0 3 = some n := K2.2.trans a3
  have g4 : mI m1 6 (g_to g) 4 = c_ld s (g_to g) := (R1.1.2.2.2.2.2.2 (g_to g) hto).2.2.2.2.1
  have n1 := a2.2.1
  have k1 := h.2.2.2.2.1.1
  have base : ∀ r, go 69 28 [some (vr 7 (some 0)), some (vi (nI i)), some (vr 4 (some n))] [] (sI m1 6 (g_to g) 4 (c_ld s (g_to g) + 1)) = r → go 69 0 [some (vr 7 (some 0)), some (vi (nI i)), none] [] m = r := by
    intro r hr
    rw [← hr]
    simp only [s69_0, s69_1, s69_4, s69_5, s69_8i, s69_8r, s69_8n, s69_9, s69_10n, s69_10s, s69_15, s69_16, s69_19, s69_20, s69_23, s69_24, s69_25, eq_self, ixk_some, bd_some, nl_n, nl_i, nl_r, Option.toList_some, Option.toList_none, List.cons_append, List.nil_append, k1, a1, n1, g4]
  rw [come_eq hg]
  generalize sI m1 6 (g_to g) 4 (c_ld s (g_to g) + 1) = m2 at *
  have M2' := M2
  obtain ⟨b0, b1, b2, -⟩ := M2'
  cases hk : g_as g with
  | some k => 
    rw [hk] at b2
    obtain ⟨m3, d1, d2, d3⟩ := go_askComes R2 hcl (hA k hk)
    have M3 := (RC3_fK M2 d3 lt2).1
    refine ⟨m3, base _ ?_, d2, fg_tr Z1 (fg_tr (fz_fK K2) (fz_fK d3))⟩
    simp only [s69_28, s69_29, s69_32n, s69_32s, s69_35, s69_36, s69_37, s69_40, s69_41, s69_44, s69_47, s69_59, s69_60, s69_63, eq_self, ixk_some, bd_some, nl_n, nl_i, nl_r, Option.toList_some, Option.toList_none, List.cons_append, List.nil_append, b2, b1, d1, M3]
  | none => 
    rw [hk] at b2
    obtain ⟨hG, hl, hc1, hc2, hc3⟩ := hN hk
    obtain ⟨m3, d1, d2, d3⟩ := go_changeComes R2 hcl M2 lt2 hG hl
    obtain ⟨m4, e1, e2, e3⟩ := go_settle d2 (fun _ => hc1) hc2 hc3
    have M3 := (RC3_fK (RC3_fK M2 d3 lt2) e3 (d3.2.trans lt2)).1
    refine ⟨m4, base _ ?_, e2, fg_tr Z1 (fg_tr (fz_fK K2) (fg_tr (fz_fK d3) (fz_fK e3)))⟩
    simp only [s69_28, s69_29, s69_32n, s69_32s, s69_50, s69_51, s69_52, s69_55, s69_56, s69_59, s69_60, s69_63, eq_self, ixk_some, bd_some, nl_n, nl_i, nl_r, Option.toList_some, Option.toList_none, List.cons_append, List.nil_append, b2, d1, e1, M3]
theorem go_deliver {s : ST} {m : MM} {i : Int32} (h : RC s m) (hgk : ∀ g ∈ c_ms s, GOK s g) (ht : ∀ j g, (c_ms s)[j]? = some g → may s g = true → TK s j g) :
    ∃ m', go 64 0 [some (vr 7 (some 0)), some (vi i), none] [] m = some (some (vi (o_deliver s i).1), m') ∧ RC (o_deliver s i).2 m' ∧ fg QZ m m' := by
  have k1 := h.2.2.2.2.1.1
  unfold o_deliver
  rcases go_at (i := i) h.2.2.2.2.1 with ⟨j, g, n, e1, e2, e3, e4, e5, e6, e7⟩ | ⟨e1, e2⟩
  · rw [if_pos ⟨by omega, by omega⟩]
    have : i.toInt.toNat = j := by omega
    rw [this, e4]
    have hgo := hgk g (List.mem_of_getElem? e4)
    have c1 := go_canBeTaken h.2.1 e6 hgo.1
    cases hm : may s g
    · rw [hm, b2_f] at c1
      simp only [hm, Bool.false_eq_true, if_false]
      refine ⟨m, ?_, h, fg_rf _ _⟩
      simp [s64_0, s64_1, s64_4, s64_5, s64_8i, s64_8r, s64_8n, s64_9, s64_10n, s64_10s, s64_13, s64_14, s64_15, s64_16, s64_17, s64_20, s64_23, s64_24, s64_25, s64_28, s64_31, s64_33, eq_self, ixk_some, bd_some, nl_n, nl_i, nl_r, Option.toList_some, Option.toList_none, List.cons_append, List.nil_append, k1, e7, c1]
    · rw [hm, b2_t] at c1
      simp only [hm, if_true]
      obtain ⟨m1, d1, d2, d3⟩ := go_take h e4 (ht j g e4 hm)
      rw [← e1] at d1
      refine ⟨m1, ?_, d2, d3⟩
      simp [s64_0, s64_1, s64_4, s64_5, s64_8i, s64_8r, s64_8n, s64_9, s64_10n, s64_10s, s64_13, s64_14, s64_15, s64_16, s64_17, s64_20, s64_23, s64_24, s64_25, s64_28, s64_31, s64_33, eq_self, ixk_some, bd_some, nl_n, nl_i, nl_r, Option.toList_some, Option.toList_none, List.cons_append, List.nil_append, k1, e7, c1, d1]
  · rw [if_neg e1]
    refine ⟨m, ?_, h, fg_rf _ _⟩
    simp only [s64_0, s64_1, s64_4, s64_5, s64_8i, s64_8r, s64_8n, s64_9, s64_10n, s64_10s, s64_13, s64_14, s64_15, s64_16, s64_17, s64_20, s64_23, s64_24, s64_25, s64_28, s64_31, s64_33, eq_self, ixk_some, bd_some, nl_n, nl_i, nl_r, Option.toList_some, Option.toList_none, List.cons_append, List.nil_append, k1, e2]
theorem all_loop {n : Nat} (hn : n ≤ 1000) (J : Nat → ST → Prop) (hJ : ∀ t s, J t s → (∀ g ∈ c_ms s, GOK s g) ∧ ∀ i g, (c_ms s)[i]? = some g → may s g = true → TK s i g ∧ J (t + 1) (come s i)) :
    ∀ d t (s : ST) (m : MM) (k : Nat) (a3 : Option AV), k + d = n → J t s → RC s m →
    ∃ m', go 65 15 [some (vr 7 (some 0)), some (vi (nI n)), some (vi (nI k)), a3] [] m = some (some (vi (nI (allF s d k).1)), m') ∧ RC (allF s d k).2 m' ∧ fg QZ m m'
  | 0, t, s, m, k, a3, hd, hs, h => by
    refine ⟨m, ?_, h, fg_rf _ _⟩
    rw [s65_15]
    simp only [s65_16, s65_17, eq_self, ixk_some, bd_some, nl_n, nl_i, nl_r, Option.toList_some, Option.toList_none, List.cons_append, List.nil_append]
    rw [if_pos (nI_le (by omega) (by omega))]
    simp only [s65_46, s65_47, eq_self, ixk_some, bd_some, nl_n, nl_i, nl_r, Option.toList_some, Option.toList_none, List.cons_append, List.nil_append]
    rfl
  | d + 1, t, s, m, k, a3, hd, hs, h => by
    obtain ⟨hgk, hT⟩ := hJ t s hs
    have f1 := go_firstToTake h.2.2.2.2.1 h.2.1 hgk
    have e4 : enc none = -4 := rfl
    rw [s65_15]
    simp only [s65_16, s65_17, eq_self, ixk_some, bd_some, nl_n, nl_i, nl_r, Option.toList_some, Option.toList_none, List.cons_append, List.nil_append]
    rw [if_neg (nI_ge (by omega) (by omega))]
    unfold allF
    cases hf : (c_ms s).findIdx? (may s) with
    | none => 
      rw [hf, e4] at f1
      refine ⟨m, ?_, h, fg_rf _ _⟩
      simp [s65_20, s65_21, s65_24i, s65_24r, s65_24n, s65_25, s65_26, s65_28, s65_31, s65_46, s65_47, eq_self, ixk_some, bd_some, nl_n, nl_i, nl_r, Option.toList_some, Option.toList_none, List.cons_append, List.nil_append, f1]
    | some i => 
      rw [hf] at f1
      have f1 : go 68 0 [some (vr 7 (some 0)), none] [] m = some (some (vi (nI i)), m) := f1
      obtain ⟨hi, hp, -⟩ := List.findIdx?_eq_some_iff_getElem.mp hf
      have hgi : (c_ms s)[i]? = some (c_ms s)[i] := List.getElem?_eq_getElem hi
      obtain ⟨T1, T2⟩ := hT i _ hgi hp
      obtain ⟨m1, d1, d2, d3⟩ := go_take h hgi T1
      obtain ⟨m2, b1, b2, b3⟩ := all_loop hn J hJ d (t + 1) _ m1 (k + 1) (some (vi (nI i))) (by omega) T2 d2
      refine ⟨m2, ?_, b2, fg_tr d3 b3⟩
      have hl := h.2.2.2.2.1.2.2.2.2.1
      have hne : ¬ nI i = -4 := by
        intro z
        have := congrArg Int32.toInt z
        rw [nI_toInt (by omega)] at this
        have h4 : ((-4 : Int32)).toInt = -4 := by decide
        omega
      have s1 : nI k + 1 = nI (k + 1) := nI_1 k
      simp [s65_0, s65_1, s65_4, s65_5, s65_8, s65_11, s65_12, s65_13, s65_14i, s65_14r, s65_14n, s65_16, s65_17, s65_20, s65_21, s65_24i, s65_24r, s65_24n, s65_25, s65_26, s65_28, s65_31, s65_34, s65_35, s65_36, s65_39, s65_40i, s65_40r, s65_40n, s65_43, s65_46, s65_47, eq_self, ixk_some, bd_some, nl_n, nl_i, nl_r, Option.toList_some, Option.toList_none, List.cons_append, List.nil_append, f1, hne, d1, s1, b1]
theorem go_all {s : ST} {m : MM} {n : Int32} {t : Nat} (J : Nat → ST → Prop) (hJ : ∀ t s, J t s → (∀ g ∈ c_ms s, GOK s g) ∧ ∀ i g, (c_ms s)[i]? = some g → may s g = true → TK s i g ∧ J (t + 1) (come s i)) (hs : J t s) (h : RC s m) :
    ∃ m', go 65 0 [some (vr 7 (some 0)), some (vi n), none, none] [] m = some (some (vi (o_all s n).1), m') ∧ RC (o_all s n).2 m' ∧ fg QZ m m' := by
  unfold o_all
  have e1 : (1000 : Int32) = nI 1000 := rfl
  by_cases hn : 0 ≤ n.toInt ∧ n.toInt ≤ 1000
  · rw [if_pos hn]
    have hn1 : n.toInt.toNat ≤ 1000 := by omega
    have hn2 : n = nI n.toInt.toNat := by
      apply Int32.toInt_inj.mp
      rw [nI_toInt (by omega)]
      omega
    obtain ⟨m1, b1, b2, b3⟩ := all_loop hn1 J hJ n.toInt.toNat t s m 0 none (by omega) hs h
    refine ⟨m1, ?_, b2, b3⟩
    rw [← b1]
    rw [← hn2]
    have x0 : ¬ n < 0 := i_nlt.mpr (Int32.le_iff_toInt_le.mpr hn.1)
    have x1 : n ≤ 1000 := Int32.le_iff_toInt_le.mpr hn.2
    simp [s65_0, s65_1, s65_4, s65_5, s65_8, s65_13, s65_14i, s65_14r, s65_14n, eq_self, ixk_some, bd_some, nl_n, nl_i, nl_r, Option.toList_some, Option.toList_none, List.cons_append, List.nil_append, x0, x1]
    rfl
  · rw [if_neg hn]
    refine ⟨m, ?_, h, fg_rf _ _⟩
    by_cases x0 : n < 0
    · simp only [s65_0, s65_1, s65_11, s65_12, eq_self, ixk_some, bd_some, nl_n, nl_i, nl_r, Option.toList_some, Option.toList_none, List.cons_append, List.nil_append, if_pos x0]
    · have x1 : ¬ n ≤ 1000 := fun z => hn ⟨Int32.le_iff_toInt_le.mp (i_nlt.mp x0), Int32.le_iff_toInt_le.mp z⟩
      simp only [s65_0, s65_1, s65_4, s65_5, s65_8, s65_11, s65_12, eq_self, ixk_some, bd_some, nl_n, nl_i, nl_r, Option.toList_some, Option.toList_none, List.cons_append, List.nil_append, if_neg x0, if_neg x1]
