/-! a new peer; the draw -/
def vwA (v : VV) (x b : Int32) : VV := (v.1 + 1, up1 v.2.1 v.1 x, up1 v.2.2.1 v.1 b, up1 v.2.2.2 v.1 0)
theorem mk_wd (v : VV) (x b : Int32) (k u l q : Nat) : wd (vwA v x b) k u l q ↔ wd v k u l q := by
  show (q < v.1 + 1 ∧ up1 v.2.2.2 v.1 0 q = 2 ∧ (q = u → l < k)) ↔ (q < v.1 ∧ v.2.2.2 q = 2 ∧ (q = u → l < k))
  by_cases e : q = v.1
  · rw [e, up1_s]
    exact ⟨fun y => absurd y.2.1 (by decide), fun y => absurd y.1 (by omega)⟩
  · rw [up1_n _ _ e]
    exact ⟨fun y => ⟨by omega, y.2⟩, fun y => ⟨by omega, y.2⟩⟩
theorem mk_kn {v : VV} (x b : Int32) {q : Nat} (h : q < v.1) : kn (vwA v x b) q = kn v q := by
  show (up1 v.2.1 v.1 x q).toInt = (v.2.1 q).toInt
  rw [up1_n _ _ (by omega)]
theorem mk_rl {v : VV} (x b : Int32) {l p q : Nat} (hp : p < v.1) (hq : q < v.1) : rl (vwA v x b) l p q ↔ rl v l p q := by
  show lkb (up1 v.2.2.1 v.1 b p) (up1 v.2.2.1 v.1 b q) l = true ↔ lkb (v.2.2.1 p) (v.2.2.1 q) l = true
  rw [up1_n _ _ (by omega), up1_n _ _ (by omega)]
theorem mk_be {v : VV} (x b : Int32) {q : Nat} (h : q < v.1) : (vwA v x b).2.2.2 q = v.2.2.2 q := up1_n _ _ (by omega)
theorem mk_nx {v : VV} {x b : Int32} {k u l l' z d : Nat} {o : Option Nat} (hz : z < v.1) (h : NX (wd v k u l) (rl v l') (kn v) z d o) : NX (wd (vwA v x b) k u l) (rl (vwA v x b) l') (kn (vwA v x b)) z d o :=
  nx_cg (fun q => mk_wd v x b k u l q) (fun q hq => mk_rl x b hz hq.1) (fun q hq => mk_kn x b hq.1) (mk_kn x b hz) h
theorem mk_kyd {v : VV} (x b : Int32) {d q : Nat} (h : q < v.1) : kyd (kn (vwA v x b)) d q = kyd (kn v) d q := kyd_cg (mk_kn x b h)
theorem mk_nA {v : VV} {x b : Int32} {kl kl' : Nat → Nat → Nat → Option Nat} {L : List MSG} {k u : Nat} {c : Bool} (hu : u < v.1) (e : ∀ z l d, z < v.1 → kl' z l d = kl z l d) (h : netA v kl L k u c) : netA (vwA v x b) kl' L k u c := by
  obtain ⟨h1, h2, h3⟩ := h
  refine ⟨fun g hg g1 g2 => ?_, fun z z1 z2 z3 l hl d hd => ?_, h3⟩
  · obtain ⟨l, l1, l2, l3, l4, l5, l6, l7, l8, l9⟩ := h1 g hg g1 g2
    refine ⟨l, l1, l2, l3, Nat.lt_succ_of_lt l4, (mk_be x b l4).trans l5, l6, ?_, mk_nx l4 l8, l9⟩
    rw [mk_kyd x b l4, mk_kyd x b hu]
    exact l7
  · have z1 : z < v.1 + 1 := z1
    have zn : z ≠ v.1 := fun y => by
      have z2 : up1 v.2.2.2 v.1 0 z = 2 := z2
      rw [y, up1_s] at z2
      cases z2
    have zl : z < v.1 := by omega
    rw [e z l d zl]
    rcases h2 z zl ((mk_be x b zl).symm.trans z2) z3 l hl d hd with y | y
    · exact Or.inl (mk_nx zl y)
    · exact Or.inr y
theorem mk_nR {v : VV} {x b : Int32} {kl kl' : Nat → Nat → Nat → Option Nat} (e : ∀ z l d, z < v.1 → kl' z l d = kl z l d) (h : netR v kl) : netR (vwA v x b) kl' := by
  intro z z1 z2 l hl d hd
  have z1 : z < v.1 + 1 := z1
  have zn : z ≠ v.1 := fun y => by
    have z2 : up1 v.2.2.2 v.1 0 z = 2 := z2
    rw [y, up1_s] at z2
    cases z2
  have zl : z < v.1 := by omega
  rw [e z l d zl]
  exact mk_nx zl (h z zl ((mk_be x b zl).symm.trans z2) l hl d hd)
theorem mk_gr {v : VV} {x b : Int32} {u k : Nat} {T : List MSG} (hu : u < v.1) (h : growO v u k T) : growO (vwA v x b) u k T := by
  rcases h with ⟨e, y⟩ | ⟨l, z, d, e1, e2, e3, s1, s2, s3, s4, s5, s6, s7, s8⟩ | ⟨a, c, e1, e2, n1, n2⟩
  · refine Or.inl ⟨e, ?_⟩
    rcases y with y | y
    · exact Or.inl y
    · exact Or.inr (fun d hd => mk_nx hu (y d hd))
  · refine Or.inr (Or.inl ⟨l, z, d, e1, e2, e3, Nat.lt_succ_of_lt s1, (mk_be x b s1).trans s2, s3, s4, (mk_rl x b hu s1).mpr s5, ?_, fun q q1 q2 q3 => ?_, fun y => mk_nx hu (s8 y)⟩)
    · rw [mk_kyd x b hu, mk_kyd x b s1]; exact s6
    · have q1' := (mk_wd v x b 0 u 0 q).mp q1
      rw [mk_kyd x b hu, mk_kyd x b q1'.1] at q3
      rw [mk_kyd x b s1, mk_kyd x b q1'.1]
      exact s7 q q1' ((mk_rl x b hu q1'.1).mp q2) q3
  · exact Or.inr (Or.inr ⟨a, c, e1, e2, mk_nx hu n1, mk_nx hu n2⟩)
theorem madeS_f (s : ST) (x b : Int32) : c_ck (made s x b) = c_ck s ∧ c_cu (made s x b) = c_cu s ∧ c_cp (made s x b) = c_cp s ∧ c_bg (made s x b) = c_bg s ∧ vw (made s x b) = vwA (vw s) x b ∧ c_ms (made s x b) = c_ms s ∧ c_ol (made s x b) = (fun j d => if j = c_n s then none else c_ol s j d) ∧ c_pr (made s x b) = up1 (c_pr s) (c_n s) [] ∧ c_ev (made s x b) = c_ev s ∧ c_na (made s x b) = c_na s ∧ c_ak (made s x b) = c_ak s ∧ c_hs (made s x b) = (fun j l => if j = c_n s ∧ 0 ≤ l ∧ l < 9 then false else c_hs s j l) ∧ c_kl (made s x b) = (fun j l d => if j = c_n s ∧ 0 ≤ l ∧ l < 9 then none else c_kl s j l d) ∧ c_n (made s x b) = c_n s + 1 ∧ c_be (made s x b) = up1 (c_be s) (c_n s) 0 := by
  simp only [made, nop, vw, vwA, C_n_n, C_n_nm, C_n_bt, C_n_be, C_n_ld, C_n_hs, C_n_kl, C_n_ol, C_n_pr, C_n_dr, C_n_ev, C_n_na, C_n_ak, C_n_ms, C_n_ck, C_n_cp, C_n_cu, C_n_cb, C_n_bg, C_nm_n, C_nm_nm, C_nm_bt, C_nm_be, C_nm_ld, C_nm_hs, C_nm_kl, C_nm_ol, C_nm_pr, C_nm_dr, C_nm_ev, C_nm_na, C_nm_ak, C_nm_ms, C_nm_ck, C_nm_cp, C_nm_cu, C_nm_cb, C_nm_bg, C_bt_n, C_bt_nm, C_bt_bt, C_bt_be, C_bt_ld, C_bt_hs, C_bt_kl, C_bt_ol, C_bt_pr, C_bt_dr, C_bt_ev, C_bt_na, C_bt_ak, C_bt_ms, C_bt_ck, C_bt_cp, C_bt_cu, C_bt_cb, C_bt_bg, C_be_n, C_be_nm, C_be_bt, C_be_be, C_be_ld, C_be_hs, C_be_kl, C_be_ol, C_be_pr, C_be_dr, C_be_ev, C_be_na, C_be_ak, C_be_ms, C_be_ck, C_be_cp, C_be_cu, C_be_cb, C_be_bg, C_ld_n, C_ld_nm, C_ld_bt, C_ld_be, C_ld_ld, C_ld_hs, C_ld_kl, C_ld_ol, C_ld_pr, C_ld_dr, C_ld_ev, C_ld_na, C_ld_ak, C_ld_ms, C_ld_ck, C_ld_cp, C_ld_cu, C_ld_cb, C_ld_bg, C_hs_n, C_hs_nm, C_hs_bt, C_hs_be, C_hs_ld, C_hs_hs, C_hs_kl, C_hs_ol, C_hs_pr, C_hs_dr, C_hs_ev, C_hs_na, C_hs_ak, C_hs_ms, C_hs_ck, C_hs_cp, C_hs_cu, C_hs_cb, C_hs_bg, C_kl_n, C_kl_nm, C_kl_bt, C_kl_be, C_kl_ld, C_kl_hs, C_kl_kl, C_kl_ol, C_kl_pr, C_kl_dr, C_kl_ev, C_kl_na, C_kl_ak, C_kl_ms, C_kl_ck, C_kl_cp, C_kl_cu, C_kl_cb, C_kl_bg, C_ol_n, C_ol_nm, C_ol_bt, C_ol_be, C_ol_ld, C_ol_hs, C_ol_kl, C_ol_ol, C_ol_pr, C_ol_dr, C_ol_ev, C_ol_na, C_ol_ak, C_ol_ms, C_ol_ck, C_ol_cp, C_ol_cu, C_ol_cb, C_ol_bg, C_pr_n, C_pr_nm, C_pr_bt, C_pr_be, C_pr_ld, C_pr_hs, C_pr_kl, C_pr_ol, C_pr_pr, C_pr_dr, C_pr_ev, C_pr_na, C_pr_ak, C_pr_ms, C_pr_ck, C_pr_cp, C_pr_cu, C_pr_cb, C_pr_bg, C_dr_n, C_dr_nm, C_dr_bt, C_dr_be, C_dr_ld, C_dr_hs, C_dr_kl, C_dr_ol, C_dr_pr, C_dr_dr, C_dr_ev, C_dr_na, C_dr_ak, C_dr_ms, C_dr_ck, C_dr_cp, C_dr_cu, C_dr_cb, C_dr_bg, C_ev_n, C_ev_nm, C_ev_bt, C_ev_be, C_ev_ld, C_ev_hs, C_ev_kl, C_ev_ol, C_ev_pr, C_ev_dr, C_ev_ev, C_ev_na, C_ev_ak, C_ev_ms, C_ev_ck, C_ev_cp, C_ev_cu, C_ev_cb, C_ev_bg, C_na_n, C_na_nm, C_na_bt, C_na_be, C_na_ld, C_na_hs, C_na_kl, C_na_ol, C_na_pr, C_na_dr, C_na_ev, C_na_na, C_na_ak, C_na_ms, C_na_ck, C_na_cp, C_na_cu, C_na_cb, C_na_bg, C_ak_n, C_ak_nm, C_ak_bt, C_ak_be, C_ak_ld, C_ak_hs, C_ak_kl, C_ak_ol, C_ak_pr, C_ak_dr, C_ak_ev, C_ak_na, C_ak_ak, C_ak_ms, C_ak_ck, C_ak_cp, C_ak_cu, C_ak_cb, C_ak_bg, C_ms_n, C_ms_nm, C_ms_bt, C_ms_be, C_ms_ld, C_ms_hs, C_ms_kl, C_ms_ol, C_ms_pr, C_ms_dr, C_ms_ev, C_ms_na, C_ms_ak, C_ms_ms, C_ms_ck, C_ms_cp, C_ms_cu, C_ms_cb, C_ms_bg, C_ck_n, C_ck_nm, C_ck_bt, C_ck_be, C_ck_ld, C_ck_hs, C_ck_kl, C_ck_ol, C_ck_pr, C_ck_dr, C_ck_ev, C_ck_na, C_ck_ak, C_ck_ms, C_ck_ck, C_ck_cp, C_ck_cu, C_ck_cb, C_ck_bg, C_cp_n, C_cp_nm, C_cp_bt, C_cp_be, C_cp_ld, C_cp_hs, C_cp_kl, C_cp_ol, C_cp_pr, C_cp_dr, C_cp_ev, C_cp_na, C_cp_ak, C_cp_ms, C_cp_ck, C_cp_cp, C_cp_cu, C_cp_cb, C_cp_bg, C_cu_n, C_cu_nm, C_cu_bt, C_cu_be, C_cu_ld, C_cu_hs, C_cu_kl, C_cu_ol, C_cu_pr, C_cu_dr, C_cu_ev, C_cu_na, C_cu_ak, C_cu_ms, C_cu_ck, C_cu_cp, C_cu_cu, C_cu_cb, C_cu_bg, C_cb_n, C_cb_nm, C_cb_bt, C_cb_be, C_cb_ld, C_cb_hs, C_cb_kl, C_cb_ol, C_cb_pr, C_cb_dr, C_cb_ev, C_cb_na, C_cb_ak, C_cb_ms, C_cb_ck, C_cb_cp, C_cb_cu, C_cb_cb, C_cb_bg, C_bg_n, C_bg_nm, C_bg_bt, C_bg_be, C_bg_ld, C_bg_hs, C_bg_kl, C_bg_ol, C_bg_pr, C_bg_dr, C_bg_ev, C_bg_na, C_bg_ak, C_bg_ms, C_bg_ck, C_bg_cp, C_bg_cu, C_bg_cb, C_bg_bg, and_self]
theorem mk_ic {s s' : ST} {x b : Int32} (hc : I_c s) (t1 : c_ck s' = c_ck s) (t2 : c_cu s' = c_cu s) (t3 : c_cp s' = c_cp s) (t4 : c_bg s' = c_bg s) (t5 : vw s' = vwA (vw s) x b) (t6 : c_ms s' = c_ms s) (th : ∀ z l, z < c_n s → c_hs s' z l = c_hs s z l) (tk : ∀ z l d, z < c_n s → c_kl s' z l d = c_kl s z l d) : I_c s' := by
  have n1 : c_n s' = c_n s + 1 := by show (vw s').1 = (vw s).1 + 1; rw [t5]; rfl
  have n2 : c_be s' = up1 (c_be s) (c_n s) 0 := by show (vw s').2.2.2 = _; rw [t5]; rfl
  have hT : tkL s' = tkL s := by unfold tkL; rw [t6]
  have cu := (ic_na hc).1
  have bu : c_be s' (c_cp s') = c_be s (c_cp s) := by rw [n2, t3, up1_n _ _ (by omega)]
  have nC : ∀ k c, netC s k c → netC s' k c := fun k c h => by
    refine ⟨by rw [t3, n1]; omega, fun p hp hne => ?_, ?_⟩
    · rw [n2]
      by_cases e : p = c_n s
      · rw [e, up1_s]; exact Or.inl rfl
      · rw [up1_n _ _ e]
        rw [t3] at hne
        exact h.2.1 p (by omega) hne
    · rw [t5, t6, t3]
      exact mk_nA cu tk h.2.2
  have nU : ∀ k, netU (vw s) (c_hs s) (c_kl s) k (c_cp s) → netU (vw s') (c_hs s') (c_kl s') k (c_cp s') := fun k h => by
    rw [t5, t3]
    refine ⟨fun l hl d hd => ?_, fun l hl h9 => ?_⟩
    · rw [tk _ _ _ cu]; exact mk_nx cu (h.1 l hl d hd)
    · rw [th _ _ cu]; exact h.2 l hl h9
  rcases hc with ⟨a1, a2, a3, a4, a5⟩ | ⟨k, a1, a2, a3, a4, a5, a6, a7, a8⟩ | ⟨a1, a2, a3, a4, a5, a6⟩ | ⟨a1, a2, a3, a4, a5⟩
  · refine Or.inl ⟨t1.trans a1, t2.trans a2, bu.trans a3, nC _ _ a4, ?_⟩
    rcases a5 with ⟨b1, w, b2, b3, b4⟩ | ⟨a, c, b1, b2, b3⟩
    · refine Or.inl ⟨t4.trans b1, w, hT.trans b2, by omega, ?_⟩
      rw [n2, up1_n _ _ (by omega)]; exact b4
    · refine Or.inr ⟨a, c, ?_, ?_, ?_⟩
      · rw [hT, t3]; exact b1
      · rw [t5, t3]; exact mk_nx cu b2
      · rw [t5, t3]; exact mk_nx cu b3
  · refine Or.inr (Or.inl ⟨k, by rw [t1]; exact a1, t2.trans a2, bu.trans a3, a4, a5, nC _ _ a6, nU _ a7, ?_⟩)
    rw [t5, t3, hT]
    exact mk_gr cu a8
  · exact Or.inr (Or.inr (Or.inl ⟨t1.trans a1, t2.trans a2, bu.trans a3, nC _ _ a4, nU _ a5, hT.trans a6⟩))
  · refine Or.inr (Or.inr (Or.inr ⟨t1.trans a1, t2.trans a2, bu.trans a3, nC _ _ a4, ?_⟩))
    rcases a5 with y | ⟨w, y1, y2⟩
    · exact Or.inl (hT.trans y)
    · exact Or.inr ⟨w, hT.trans y1, by omega⟩
theorem any_f {P : Nat → Bool} : ∀ d i, anyF P d i = false → ∀ j, i ≤ j → j < i + d → P j = false
  | 0, i, _, j, h1, h2 => by omega
  | d + 1, i, h, j, h1, h2 => by
    have h : (P i || anyF P d (i + 1)) = false := h
    obtain ⟨a, b⟩ := Bool.or_eq_false_iff.mp h
    by_cases e : j = i
    · rw [e]; exact a
    · exact any_f d (i + 1) b j (by omega) (by omega)
theorem made_inv {t : Nat} {s : ST} {x b : Int32} (h : INV t s) (hn : ¬ isNm s x = true) (h32 : c_n s ≠ 32) : INV t (made s x b) := by
  obtain ⟨t1, t2, t3, t4, t5, t6, t7, t8, t9, t10, t11, t12, t13, t14, t15⟩ := madeS_f s x b
  generalize made s x b = s' at *
  have th : ∀ z l, z < c_n s → c_hs s' z l = c_hs s z l := fun z l hz => by rw [t12]; exact if_neg (fun y => by omega)
  have tk : ∀ z l d, z < c_n s → c_kl s' z l d = c_kl s z l d := fun z l d hz => by rw [t13]; exact if_neg (fun y => by omega)
  have hb := h.1.1
  have nn : ∀ p, p < c_n s → c_nm s p ≠ x := fun p hp e => by
    have a : isNm s x = false := by cases y : isNm s x; rfl; exact absurd y hn
    have := any_f _ _ a p (Nat.zero_le _) (by omega)
    rw [e] at this
    simp at this
  refine ⟨⟨⟨?_, ?_, ?_, ?_⟩, ⟨?_, ?_, ?_⟩, ?_, ?_⟩, ?_⟩
  · have := hb.1
    omega
  · rw [t5]
    intro p q hp hq e
    have hp : p < c_n s + 1 := hp
    have hq : q < c_n s + 1 := hq
    have e : up1 (c_nm s) (c_n s) x p = up1 (c_nm s) (c_n s) x q := e
    by_cases e1 : p = c_n s
    · by_cases e2 : q = c_n s
      · rw [e1, e2]
      · rw [e1, up1_s, up1_n _ _ e2] at e
        exact absurd e.symm (nn q (by omega))
    · by_cases e2 : q = c_n s
      · rw [e2, up1_s, up1_n _ _ e1] at e
        exact absurd e (nn p (by omega))
      · rw [up1_n _ _ e1, up1_n _ _ e2] at e
        exact hb.2.1 p q (show p < c_n s by omega) (show q < c_n s by omega) e
  · rw [t12, t13]
    exact hk_nop hb.2.2.1 _ _
  · refine ⟨fun i l d p hi e => ?_, fun i d p hi e => ?_⟩
    · rw [t14] at hi ⊢
      by_cases c : i = c_n s
      · rw [t13] at e
        have e : (if i = c_n s ∧ 0 ≤ l ∧ l < 9 then none else c_kl s i l d) = some p := e
        by_cases c9 : l < 9
        · rw [if_pos ⟨c, Nat.zero_le _, c9⟩] at e; cases e
        · rw [if_neg (fun y => c9 y.2.2), hb.2.2.1.2 i l d (by omega)] at e; cases e
      · rw [tk i l d (by omega)] at e
        have := hb.2.2.2.1 i l d p (by omega) e
        omega
    · rw [t14] at hi ⊢
      rw [t7] at e
      have e : (if i = c_n s then none else c_ol s i d) = some p := e
      by_cases c : i = c_n s
      · rw [if_pos c] at e; cases e
      · rw [if_neg c] at e
        have := hb.2.2.2.2 i d p (by omega) e
        omega
  · intro p hp
    rw [t14] at hp
    rw [t9, t8]
    by_cases c : p = c_n s
    · rw [c, up1_s]; exact pr_nil _
    · rw [up1_n _ _ c]; exact h.1.2.1.1 p (by omega)
  · rw [t9, t4]; exact h.1.2.1.2.1
  · rw [t9]; exact h.1.2.1.2.2
  · unfold I_q
    rw [t10, t11, t9, t14, t6]
    refine ⟨h.1.2.2.1.1, fun g hg => ⟨?_, (h.1.2.2.1.2.1 g hg).2⟩, h.1.2.2.1.2.2⟩
    have := (h.1.2.2.1.2.1 g hg).1
    omega
  · rcases h.1.2.2.2 with y | y
    · left
      refine ⟨t1.trans y.1, t2.trans y.2.1, fun p hp => ?_, by rw [t6]; exact y.2.2.2.1, ?_⟩
      · rw [t14] at hp
        rw [t15]
        by_cases c : p = c_n s
        · rw [c, up1_s]; exact Or.inl rfl
        · rw [up1_n _ _ c]; exact y.2.2.1 p (by omega)
      · rw [t5]
        exact mk_nR tk y.2.2.2.2
    · exact Or.inr (mk_ic y t1 t2 t3 t4 t5 t6 th tk)
  · intro z
    rw [t1] at z
    have := h.2 z
    unfold chM at *
    rw [t6]
    exact this
theorem dr_inv {t : Nat} {s : ST} (d : Int32) (h : INV t s) : INV t (c_dr_ s d) := by
  refine ⟨⟨ib_cg rfl rfl rfl rfl h.1.1, ip_cg rfl rfl rfl rfl h.1.2.1, h.1.2.2.1, ?_⟩, h.2⟩
  rcases h.1.2.2.2 with y | y
  · exact Or.inl y
  · exact Or.inr (ic_cg (s := s) rfl rfl rfl rfl rfl rfl (fun _ _ hn => hn) (fun _ hn => hn) y)
theorem in_peer {t : Nat} {s : ST} {x b : Int32} (h : INV t s) : INV t (o_peer s x b).2 := by
  unfold o_peer
  by_cases c : isNm s x = true ∨ ¬ (0 ≤ b ∧ b ≤ 255)
  · rw [if_pos c]; exact h
  · rw [if_neg c]
    by_cases e : c_n s = 32
    · rw [if_pos e]; exact h
    · rw [if_neg e]
      exact made_inv h (fun z => c (Or.inl z)) e
theorem in_drawn {t : Nat} {s : ST} {x : Int32} (h : INV t s) : INV t (o_drawn s x).2 := by
  unfold o_drawn
  by_cases c : isNm s x = true
  · rw [if_pos c]; exact h
  · rw [if_neg c]
    by_cases e : c_n s = 32
    · rw [if_pos e]; exact h
    · rw [if_neg e]
      have k : ∀ d, INV t (made (c_dr_ s d) x (d >>> (16 &&& 31) &&& 255)) := fun d => made_inv (dr_inv d h) (by rw [show isNm (c_dr_ s d) x = isNm s x from rfl]; exact c) (by rw [show c_n (c_dr_ s d) = c_n s from rfl]; exact e)
      exact k _
theorem in_seed {t : Nat} {s : ST} {v : Int32} (h : INV t s) : INV t (o_seed s v).2 := dr_inv v h
theorem in_t {t t' : Nat} {s : ST} (h : INV t s) (ht : t ≤ t') : INV t' s := ⟨⟨h.1.1, h.1.2.1, ⟨akO_t h.1.2.2.1.1 ht, h.1.2.2.1.2⟩, h.1.2.2.2⟩, h.2⟩
