/-! a message of an ask is taken: what holds behind it -/
theorem ls_nd : ∀ (L : List MSG) (i : Nat) (g : MSG) (k : Nat), L[i]? = some g → g_as g = some k → (L.filterMap g_as).Nodup → k ∉ (L.eraseIdx i).filterMap g_as
  | [], i, g, k, h, _, _ => by cases h
  | a :: L, 0, g, k, h, e, nd => by
    rw [List.getElem?_cons_zero] at h
    rw [Option.some.inj h, List.filterMap_cons_some e] at nd
    rw [List.eraseIdx_cons_zero]
    exact (List.nodup_cons.mp nd).1
  | a :: L, i + 1, g, k, h, e, nd => by
    rw [List.getElem?_cons_succ] at h
    rw [List.eraseIdx_cons_succ]
    cases f : g_as a with
    | none =>
      rw [List.filterMap_cons_none f] at nd ⊢
      exact ls_nd L i g k h e nd
    | some j =>
      rw [List.filterMap_cons_some f] at nd ⊢
      obtain ⟨n1, n2⟩ := List.nodup_cons.mp nd
      intro z
      rcases List.mem_cons.mp z with y | y
      · exact n1 (by rw [← y]; exact List.mem_filterMap.mpr ⟨g, List.mem_of_getElem? h, e⟩)
      · exact ls_nd L i g k h e n2 y
theorem ask_t {g : MSG} {k : Nat} (e : g_as g = some k) : isTk g = false ∧ isLk g = false ∧ (g_as g).isNone = false := by
  unfold isTk isLk
  rw [e]
  exact ⟨rfl, rfl, rfl⟩
theorem tk_inv {t : Nat} {s : ST} {i k : Nat} {g : MSG} (h : INV t s) (hg : (c_ms s)[i]? = some g) (e : g_as g = some k) : INV t (tkn s i g) := by
  obtain ⟨t1, t2, t3, t4, t5, t6, t7, t8, t9, t10, t11, t12, t13, t14, t15, t16⟩ := tkn_f s i g
  obtain ⟨e1, e2, e3⟩ := ask_t e
  have tk : tkL (tkn s i g) = tkL s := by
    unfold tkL
    rw [t6]
    exact ls_f0 _ _ _ hg e1
  refine ⟨⟨tk_b h.1.1, tk_p h.1.2.1, tk_q h.1.2.2.1, ?_⟩, fun z => ?_⟩
  · rcases h.1.2.2.2 with x | x
    · left
      unfold ph0 at *
      rw [t1, t2, t14, t15, t6, t5, t13]
      exact ⟨x.1, x.2.1, x.2.2.1, fun g hg => x.2.2.2.1 g (List.mem_of_mem_eraseIdx hg), x.2.2.2.2⟩
    · right
      refine ic_cg t1 t2 t3 t4 t5 tk (fun k b hn => ?_) (fun k hn => ?_) x
      · rw [t13, t6]; exact na_er hn hg e2
      · rw [t12, t13]; exact hn
  · rw [t1] at z
    have := h.2 z
    unfold chM at *
    rw [t6, ls_f0 _ _ _ hg e3]
    exact this
theorem snda_inv {t : Nat} {s : ST} {k p : Nat} (h : INV t s) (hk : k < c_na s) (hd : a_dn (c_ak s k) = false) (hf : k ∉ (c_ms s).filterMap g_as) (hp : p < c_n s) : INV t (snda s k p) := by
  have xa : g_as ((a_so (c_ak s k), p, some k, none, 0, none, none) : MSG) = some k := rfl
  obtain ⟨e1, e2, e3⟩ := ask_t xa
  have ue : snda s k p = c_ms_ s (c_ms s ++ [(a_so (c_ak s k), p, some k, none, 0, none, none)]) := rfl
  rw [ue]
  have xt : g_to ((a_so (c_ak s k), p, some k, none, 0, none, none) : MSG) = p := rfl
  have xs : g_so ((a_so (c_ak s k), p, some k, none, 0, none, none) : MSG) = a_so (c_ak s k) := rfl
  generalize ((a_so (c_ak s k), p, some k, none, 0, none, none) : MSG) = x at *
  refine ⟨⟨ib_cg rfl rfl rfl rfl h.1.1, ip_cg rfl rfl rfl rfl h.1.2.1, ⟨h.1.2.2.1.1, fun g hg => ?_, ?_⟩, ?_⟩, fun z => ?_⟩
  · rcases List.mem_append.mp hg with y | y
    · exact h.1.2.2.1.2.1 g y
    · rw [List.mem_singleton.mp y]
      refine ⟨by rw [xt]; exact hp, fun j hj => ?_⟩
      rw [xa] at hj
      rw [← Option.some.inj hj]
      exact ⟨hk, hd, xs⟩
  · show ((c_ms s ++ [x]).filterMap g_as).Nodup
    rw [List.filterMap_append, List.filterMap_cons_some xa, List.filterMap_nil]
    refine List.nodup_append.mpr ⟨h.1.2.2.1.2.2, by simp, fun a ha b hb e => ?_⟩
    rw [e, List.mem_singleton.mp hb] at ha
    exact hf ha
  · rcases h.1.2.2.2 with y | y
    · refine Or.inl ⟨y.1, y.2.1, y.2.2.1, fun g hg => ?_, y.2.2.2.2⟩
      rcases List.mem_append.mp hg with z | z
      · exact y.2.2.2.1 g z
      · rw [List.mem_singleton.mp z, xa]
        intro w; cases w
    · refine Or.inr (ic_cg (s := s) rfl rfl rfl rfl rfl ?_ (fun j b hn => na_ap hn (fun g hg => by rw [List.mem_singleton.mp hg]; exact e2)) (fun j hn => hn) y)
      show (c_ms s ++ [x]).filter isTk = (c_ms s).filter isTk
      rw [List.filter_append, List.filter_cons_of_neg (by rw [e1]; decide), List.filter_nil, List.append_nil]
  · have y : 0 < ((c_ms s).filter fun g => (g_as g).isNone).length := h.2 z
    show 0 < ((c_ms s ++ [x]).filter fun g => (g_as g).isNone).length
    rw [List.filter_append, List.length_append]
    omega
theorem oA_q {t : Nat} {s : ST} {k : Nat} {x : AK} (h : I_q t s) (hf : k ∉ (c_ms s).filterMap g_as) (g : akG (c_ak s k) x) : akO (t + 1) (c_na s) (up1 (c_ak s) k x) (c_ev s) ∧ mq (c_n s) (c_na s) (up1 (c_ak s) k x) (c_ms s) := by
  refine ⟨⟨h.1.1, fun j hj => ?_⟩, fun m hm => ⟨(h.2.1 m hm).1, fun j hj => ?_⟩, h.2.2⟩
  · obtain ⟨a, b, c, d⟩ := h.1.2 j hj
    by_cases e : j = k
    · rw [e] at a b c d ⊢
      rw [up1_s, g.1, g.2.1, g.2.2.1]
      have := g.2.2.2
      exact ⟨a, by omega, by omega, d⟩
    · rw [up1_n _ _ e]
      exact ⟨a, by omega, by omega, d⟩
  · have e : j ≠ k := fun e => hf (List.mem_filterMap.mpr ⟨m, hm, by rw [hj, e]⟩)
    rw [up1_n _ _ e]
    exact (h.2.1 m hm).2 j hj
theorem oA_inv {t : Nat} {s : ST} {k : Nat} {x : AK} (h : INV t s) (hf : k ∉ (c_ms s).filterMap g_as) (g : akG (c_ak s k) x) : INV (t + 1) (oA s k x) := by
  refine ⟨⟨ib_cg rfl rfl rfl rfl h.1.1, ip_cg rfl rfl rfl rfl h.1.2.1, oA_q h.1.2.2.1 hf g, ?_⟩, h.2⟩
  rcases h.1.2.2.2 with y | y
  · exact Or.inl y
  · exact Or.inr (ic_cg rfl rfl rfl rfl rfl rfl (fun _ _ hn => hn) (fun _ hn => hn) y)
theorem oP_f (s : ST) (k u : Nat) (L : PRS) (x : AK) : c_ck (oP s k u L x) = c_ck s ∧ c_cu (oP s k u L x) = c_cu s ∧ c_cp (oP s k u L x) = c_cp s ∧ c_bg (oP s k u L x) = c_bg s ∧ vw (oP s k u L x) = vw s ∧ c_ms (oP s k u L x) = c_ms s ∧ c_ol (oP s k u L x) = c_ol s ∧ c_pr (oP s k u L x) = up1 (c_pr s) u L ∧ c_ev (oP s k u L x) = c_ev s ∧ c_na (oP s k u L x) = c_na s ∧ c_ak (oP s k u L x) = up1 (c_ak s) k x ∧ c_hs (oP s k u L x) = c_hs s ∧ c_kl (oP s k u L x) = c_kl s ∧ c_n (oP s k u L x) = c_n s ∧ c_be (oP s k u L x) = c_be s := by
  simp only [oP, vw, C_n_n, C_n_nm, C_n_bt, C_n_be, C_n_ld, C_n_hs, C_n_kl, C_n_ol, C_n_pr, C_n_dr, C_n_ev, C_n_na, C_n_ak, C_n_ms, C_n_ck, C_n_cp, C_n_cu, C_n_cb, C_n_bg, C_nm_n, C_nm_nm, C_nm_bt, C_nm_be, C_nm_ld, C_nm_hs, C_nm_kl, C_nm_ol, C_nm_pr, C_nm_dr, C_nm_ev, C_nm_na, C_nm_ak, C_nm_ms, C_nm_ck, C_nm_cp, C_nm_cu, C_nm_cb, C_nm_bg, C_bt_n, C_bt_nm, C_bt_bt, C_bt_be, C_bt_ld, C_bt_hs, C_bt_kl, C_bt_ol, C_bt_pr, C_bt_dr, C_bt_ev, C_bt_na, C_bt_ak, C_bt_ms, C_bt_ck, C_bt_cp, C_bt_cu, C_bt_cb, C_bt_bg, C_be_n, C_be_nm, C_be_bt, C_be_be, C_be_ld, C_be_hs, C_be_kl, C_be_ol, C_be_pr, C_be_dr, C_be_ev, C_be_na, C_be_ak, C_be_ms, C_be_ck, C_be_cp, C_be_cu, C_be_cb, C_be_bg, C_ld_n, C_ld_nm, C_ld_bt, C_ld_be, C_ld_ld, C_ld_hs, C_ld_kl, C_ld_ol, C_ld_pr, C_ld_dr, C_ld_ev, C_ld_na, C_ld_ak, C_ld_ms, C_ld_ck, C_ld_cp, C_ld_cu, C_ld_cb, C_ld_bg, C_hs_n, C_hs_nm, C_hs_bt, C_hs_be, C_hs_ld, C_hs_hs, C_hs_kl, C_hs_ol, C_hs_pr, C_hs_dr, C_hs_ev, C_hs_na, C_hs_ak, C_hs_ms, C_hs_ck, C_hs_cp, C_hs_cu, C_hs_cb, C_hs_bg, C_kl_n, C_kl_nm, C_kl_bt, C_kl_be, C_kl_ld, C_kl_hs, C_kl_kl, C_kl_ol, C_kl_pr, C_kl_dr, C_kl_ev, C_kl_na, C_kl_ak, C_kl_ms, C_kl_ck, C_kl_cp, C_kl_cu, C_kl_cb, C_kl_bg, C_ol_n, C_ol_nm, C_ol_bt, C_ol_be, C_ol_ld, C_ol_hs, C_ol_kl, C_ol_ol, C_ol_pr, C_ol_dr, C_ol_ev, C_ol_na, C_ol_ak, C_ol_ms, C_ol_ck, C_ol_cp, C_ol_cu, C_ol_cb, C_ol_bg, C_pr_n, C_pr_nm, C_pr_bt, C_pr_be, C_pr_ld, C_pr_hs, C_pr_kl, C_pr_ol, C_pr_pr, C_pr_dr, C_pr_ev, C_pr_na, C_pr_ak, C_pr_ms, C_pr_ck, C_pr_cp, C_pr_cu, C_pr_cb, C_pr_bg, C_dr_n, C_dr_nm, C_dr_bt, C_dr_be, C_dr_ld, C_dr_hs, C_dr_kl, C_dr_ol, C_dr_pr, C_dr_dr, C_dr_ev, C_dr_na, C_dr_ak, C_dr_ms, C_dr_ck, C_dr_cp, C_dr_cu, C_dr_cb, C_dr_bg, C_ev_n, C_ev_nm, C_ev_bt, C_ev_be, C_ev_ld, C_ev_hs, C_ev_kl, C_ev_ol, C_ev_pr, C_ev_dr, C_ev_ev, C_ev_na, C_ev_ak, C_ev_ms, C_ev_ck, C_ev_cp, C_ev_cu, C_ev_cb, C_ev_bg, C_na_n, C_na_nm, C_na_bt, C_na_be, C_na_ld, C_na_hs, C_na_kl, C_na_ol, C_na_pr, C_na_dr, C_na_ev, C_na_na, C_na_ak, C_na_ms, C_na_ck, C_na_cp, C_na_cu, C_na_cb, C_na_bg, C_ak_n, C_ak_nm, C_ak_bt, C_ak_be, C_ak_ld, C_ak_hs, C_ak_kl, C_ak_ol, C_ak_pr, C_ak_dr, C_ak_ev, C_ak_na, C_ak_ak, C_ak_ms, C_ak_ck, C_ak_cp, C_ak_cu, C_ak_cb, C_ak_bg, C_ms_n, C_ms_nm, C_ms_bt, C_ms_be, C_ms_ld, C_ms_hs, C_ms_kl, C_ms_ol, C_ms_pr, C_ms_dr, C_ms_ev, C_ms_na, C_ms_ak, C_ms_ms, C_ms_ck, C_ms_cp, C_ms_cu, C_ms_cb, C_ms_bg, C_ck_n, C_ck_nm, C_ck_bt, C_ck_be, C_ck_ld, C_ck_hs, C_ck_kl, C_ck_ol, C_ck_pr, C_ck_dr, C_ck_ev, C_ck_na, C_ck_ak, C_ck_ms, C_ck_ck, C_ck_cp, C_ck_cu, C_ck_cb, C_ck_bg, C_cp_n, C_cp_nm, C_cp_bt, C_cp_be, C_cp_ld, C_cp_hs, C_cp_kl, C_cp_ol, C_cp_pr, C_cp_dr, C_cp_ev, C_cp_na, C_cp_ak, C_cp_ms, C_cp_ck, C_cp_cp, C_cp_cu, C_cp_cb, C_cp_bg, C_cu_n, C_cu_nm, C_cu_bt, C_cu_be, C_cu_ld, C_cu_hs, C_cu_kl, C_cu_ol, C_cu_pr, C_cu_dr, C_cu_ev, C_cu_na, C_cu_ak, C_cu_ms, C_cu_ck, C_cu_cp, C_cu_cu, C_cu_cb, C_cu_bg, C_cb_n, C_cb_nm, C_cb_bt, C_cb_be, C_cb_ld, C_cb_hs, C_cb_kl, C_cb_ol, C_cb_pr, C_cb_dr, C_cb_ev, C_cb_na, C_cb_ak, C_cb_ms, C_cb_ck, C_cb_cp, C_cb_cu, C_cb_cb, C_cb_bg, C_bg_n, C_bg_nm, C_bg_bt, C_bg_be, C_bg_ld, C_bg_hs, C_bg_kl, C_bg_ol, C_bg_pr, C_bg_dr, C_bg_ev, C_bg_na, C_bg_ak, C_bg_ms, C_bg_ck, C_bg_cp, C_bg_cu, C_bg_cb, C_bg_bg, and_self]
theorem oP_inv {t : Nat} {s : ST} {k u : Nat} {L : PRS} {x : AK} (h : INV t s) (hf : k ∉ (c_ms s).filterMap g_as) (g : akG (c_ak s k) x) (hL : prO (c_ev s) L) : INV (t + 1) (oP s k u L x) := by
  obtain ⟨t1, t2, t3, t4, t5, t6, t7, t8, t9, t10, t11, t12, t13, t14, t15⟩ := oP_f s k u L x
  refine ⟨⟨ib_cg t5 t12 t13 t7 h.1.1, ?_, ?_, ?_⟩, fun z => ?_⟩
  · unfold I_p
    rw [t14, t9, t8, t4]
    exact ⟨up1_pr h.1.2.1 hL, h.1.2.1.2⟩
  · unfold I_q
    rw [t10, t11, t9, t14, t6]
    exact oA_q h.1.2.2.1 hf g
  · rcases h.1.2.2.2 with y | y
    · left
      unfold ph0 at *
      rw [t1, t2, t14, t15, t6, t5, t13]
      exact y
    · right
      refine ic_cg t1 t2 t3 t4 t5 (by unfold tkL; rw [t6]) (fun j b hn => ?_) (fun j hn => ?_) y
      · rw [t13, t6]; exact hn
      · rw [t12, t13]; exact hn
  · rw [t1] at z
    have := h.2 z
    unfold chM at *
    rw [t6]
    exact this
theorem out_inv {t : Nat} {s s' : ST} {k u : Nat} (h : INV t s) (hk : k < c_na s) (hd : a_dn (c_ak s k) = false) (hf : k ∉ (c_ms s).filterMap g_as) (hu : u < c_n s) (ho : outA s k u s') : INV (t + 1) s' := by
  obtain ⟨x, g, o⟩ := ho
  rcases o with e | ⟨e3, v, e⟩ | ⟨ed, p, hp, e⟩
  · rw [e]; exact oA_inv h hf g
  · rw [e]
    exact oP_inv h hf g (pr_ins (h.1.2.1.1 u hu) ((h.1.2.2.1.1.2 k hk).2.2.2 e3))
  · rw [e]
    have r := oA_inv h hf g
    refine snda_inv r hk ?_ hf hp
    rw [oA_k, ed]
    exact hd
theorem in_ask {t : Nat} {s : ST} {i k : Nat} {g : MSG} (h : INV t s) (hg : (c_ms s)[i]? = some g) (e : g_as g = some k) : INV (t + 1) (comesAsk (tkn s i g) k (g_to g)) := by
  have r := tk_inv h hg e
  obtain ⟨t1, t2, t3, t4, t5, t6, t7, t8, t9, t10, t11, t12, t13, t14, t15, t16⟩ := tkn_f s i g
  obtain ⟨m1, m2⟩ := h.1.2.2.1.2.1 g (List.mem_of_getElem? hg)
  obtain ⟨k1, k2, k3⟩ := m2 k e
  have hu : g_to g < c_n (tkn s i g) := by rw [t14]; exact m1
  exact out_inv r (by rw [t10]; exact k1) (by rw [t11]; exact k2) (by rw [t6]; exact ls_nd _ _ _ _ hg e h.1.2.2.1.2.2) hu (ou_ask r.1.1.2.2.2 hu)
theorem tk_ask {t : Nat} {s : ST} {i k : Nat} {g : MSG} (ht : t + 1 < 2 ^ 30) (h : INV t s) (hg : (c_ms s)[i]? = some g) (e : g_as g = some k) : TK s i g ∧ TR s i g := by
  have r := tk_inv h hg e
  have r2 := in_ask h hg e
  obtain ⟨t1, t2, t3, t4, t5, t6, t7, t8, t9, t10, t11, t12, t13, t14, t15, t16⟩ := tkn_f s i g
  obtain ⟨m1, m2⟩ := h.1.2.2.1.2.1 g (List.mem_of_getElem? hg)
  obtain ⟨k1, k2, k3⟩ := m2 k e
  obtain ⟨b1, b2, b3, b4⟩ := h.1.2.2.1.1.2 k k1
  have l1 := i0_len r.1
  have l2 := ch_le r.1
  have l3 := i0_len r2.1
  have l4 := ch_le r2.1
  have so4 : g_so g ≤ 4 := by rw [k3]; exact b1
  have one : ∀ j, g_as g = some j → j = k := fun j z => by rw [e] at z; exact (Option.some.inj z).symm
  refine ⟨⟨h.1.1.2.2.2, m1, fun j z => ?_, fun z => by rw [e] at z; cases z⟩, i0_asN h.1, fun z => by omega, fun z => by omega, fun z => by omega, fun p hp => (h.1.2.1.1 p hp).1, fun j z => ?_, fun z => by rw [e] at z; cases z⟩
  · rw [one j z]
    refine ⟨by rw [t10]; exact k1, by rw [t14]; exact m1, by rw [t8]; exact (h.1.2.1.1 _ m1).1, fun s3 => ?_, by rw [t11]; omega, by rw [t11]; omega, by rw [t11]; exact k2, by omega⟩
    rw [t11] at s3 ⊢
    rw [t8]
    exact Nat.le_trans (pr_len (pr_ins (h.1.2.1.1 _ m1) (b4 s3))) h.1.2.1.2.2
  · rw [one j z]
    refine ⟨r2.1.1.2.2.2, i0_asN r2.1, by omega, fun z => ⟨?_, r2.2 z⟩⟩
    rcases r2.1.2.2.2 with y | y
    · have := y.1
      omega
    · exact (ic_na y).1
/-- a message is taken: all that is asked, and all that holds behind it -/
theorem in_come {t : Nat} {s : ST} {i : Nat} {g : MSG} (ht : t + 1 < 2 ^ 30) (h : INV t s) (hg : (c_ms s)[i]? = some g) : (TK s i g ∧ TR s i g) ∧ INV (t + 1) (come s i) := by
  rw [come_eq hg]
  cases e : g_as g with
  | some k => exact ⟨tk_ask ht h hg e, in_ask h hg e⟩
  | none =>
    refine ⟨tk_ch h.1 hg e, ?_⟩
    obtain ⟨-, -, b, p, q, c⟩ := st_ch h.1 hg e
    exact lk_inv b p ⟨akO_t q.1 (Nat.le_succ t), q.2⟩ c
