/-! the class: handOver, sendGive, joinComes -/
theorem i_nlt {x y : Int32} : ¬ x < y ↔ y ≤ x := by
  rw [Int32.lt_iff_toInt_lt, Int32.le_iff_toInt_le]
  omega
theorem i_nle {x y : Int32} : ¬ x ≤ y ↔ y < x := by
  rw [Int32.lt_iff_toInt_lt, Int32.le_iff_toInt_le]
  omega
def srt (L : PRS) : Prop := L.Pairwise (fun a b => a.1 < b.1)
theorem ins_end : ∀ (M : PRS) (k : Int32) (v : Int64), (∀ q ∈ M, q.1 < k) → ins M k v = M ++ [(k, v)]
  | [], _, _, _ => rfl
  | q :: r, k, v, h => by
    show (if q.1 < k then q :: ins r k v else if q.1 = k then (k, v) :: r else (k, v) :: q :: r) = _
    rw [if_pos (h q (List.mem_cons_self ..)), ins_end r k v (fun q hq => h q (List.mem_cons_of_mem _ hq))]
    rfl
theorem inl1_srt : ∀ (B M : PRS), srt (M ++ B) → inl1 M B = M ++ B
  | [], M, _ => (List.append_nil M).symm
  | q :: B, M, h => by
    show inl1 (ins M q.1 q.2) B = _
    have h1 : ∀ x ∈ M, x.1 < q.1 := fun x hx => (List.pairwise_append.mp h).2.2 x hx q (List.mem_cons_self ..)
    rw [ins_end M q.1 q.2 h1, inl1_srt B (M ++ [q]) (by rw [List.append_assoc]; exact h), List.append_assoc]
    rfl
theorem bl_take (key : Int32) : ∀ L : PRS, srt L → L.filter (fun q => decide (q.1 < key)) = L.take (bl key L) ∧ L.filter (fun q => decide (key ≤ q.1)) = L.drop (bl key L)
  | [], _ => ⟨rfl, rfl⟩
  | q :: r, h => by
    obtain ⟨h1, h2⟩ := List.pairwise_cons.mp h
    obtain ⟨i1, i2⟩ := bl_take key r h2
    by_cases hq : q.1 < key
    · have hn : ¬ key ≤ q.1 := by
        have a := Int32.lt_iff_toInt_lt.mp hq
        intro z
        have := Int32.le_iff_toInt_le.mp z
        omega
      simp only [bl, if_pos hq]
      rw [List.filter_cons_of_pos (by simpa using hq), List.filter_cons_of_neg (by simpa using hn), i1, i2, Nat.add_comm 1]
      exact ⟨rfl, rfl⟩
    · have hp : key ≤ q.1 := i_nlt.mp hq
      simp only [bl, if_neg hq]
      refine ⟨?_, ?_⟩
      · rw [List.take_zero, List.filter_eq_nil_iff]
        intro x hx
        have hp2 := Int32.le_iff_toInt_le.mp hp
        rcases List.mem_cons.mp hx with e | e
        · rw [e]; simpa using hq
        · have := Int32.lt_iff_toInt_lt.mp (h1 x e)
          intro z
          have := Int32.lt_iff_toInt_lt.mp (of_decide_eq_true z)
          omega
      · rw [List.drop_zero, List.filter_eq_self]
        intro x hx
        have hp2 := Int32.le_iff_toInt_le.mp hp
        apply decide_eq_true
        apply Int32.le_iff_toInt_le.mpr
        rcases List.mem_cons.mp hx with e | e
        · rw [e]; exact hp2
        · have := Int32.lt_iff_toInt_lt.mp (h1 x e)
          omega
theorem srt_take {L : PRS} (n : Nat) (h : srt L) : srt (L.take n) := List.Pairwise.sublist (List.take_sublist n L) h
theorem srt_drop {L : PRS} (n : Nat) (h : srt L) : srt (L.drop n) := List.Pairwise.sublist (List.drop_sublist n L) h
def firstO (a b : Option Nat) : Option Nat := match a with | some p => some p | none => b
def handed (s : ST) (i : Nat) : ST := if c_pr s i = [] then s else sndo (c_bg_ (c_pr_ s (up1 (c_pr s) i [])) (c_pr s i)) 10 (firstO (lnk s i 0 0) (lnk s i 0 1)) none 0 none none
theorem go_handOver {s : ST} {m : MM} {i : Nat} (h : RC s m) (hi : i < c_n s) (hs : srt (c_pr s i)) (hb : c_bg s = []) (hc : (c_ms s).length < 192) :
    ∃ m', go 49 0 [some (vr 7 (some 0)), some (vr 6 (some i)), none] [] m = some (none, m') ∧ RC (handed s i) m' ∧ fK m m' := by
  have g9 := (h.1.2.2.2.2.2.2 i hi).2.2.2.2.2.2.2.2.2.1
  have hq := h.2.2.2.2.2.1
  have g3 := (hq.2 i hi).1.2.2.1
  have g4 := (hq.2 i hi).1.2.2.2.1
  unfold handed
  by_cases h0 : c_pr s i = []
  · rw [if_pos h0]
    refine ⟨m, ?_, h, fK_rf m⟩
    rw [h0] at g3
    have g3 : mI m 5 (i + 1) 2 = 0 := g3
    simp [s49_0, s49_1, s49_4, s49_7, s49_10, s49_11, s49_12, s49_15, s49_16, s49_19, s49_22, s49_23, s49_24, s49_27, s49_30, s49_33, s49_34, s49_35, s49_36, s49_39i, s49_39r, s49_39n, s49_40, s49_41, s49_44, s49_46, s49_47n, s49_47s, s49_50, s49_51, s49_54, s49_55, s49_56, s49_57, s49_60, s49_63, eq_self, ixk_some, bd_some, nl_n, nl_i, nl_r, Option.toList_some, Option.toList_none, List.cons_append, List.nil_append, g9, g3]
  · rw [if_neg h0]
    have hlen : 0 < (c_pr s i).length := List.length_pos_iff.mpr h0
    have hne : ¬ nI (c_pr s i).length = 0 := by
      intro z
      have := congrArg Int32.toInt z
      rw [nI_toInt (by omega)] at this
      have : ((c_pr s i).length : Int) = 0 := this
      omega
    have c1 := h.2.1.1
    have c7 := h.2.1.2.2.2.2.2.2
    have e0 : (inl1 (c_bg s) (((c_pr s i).drop 0).take ((c_pr s i).length - 0))) = c_pr s i := by
      rw [hb, List.drop_zero, Nat.sub_zero, List.take_length, inl1_srt (c_pr s i) [] hs]
      rfl
    obtain ⟨m1, a1, a2, a3, a4⟩ := go_moveTo (p := i + 1) (q := 0) (a := 0) (b := (c_pr s i).length) (by omega) (hq.2 i hi) hq.1 (Nat.zero_le _) (Nat.le_refl _) (by rw [e0]; exact g4)
    rw [e0] at a3
    have e1 : (c_pr s i).take 0 ++ (c_pr s i).drop (c_pr s i).length = [] := by simp
    rw [e1] at a2
    have R1 : RC (c_bg_ (c_pr_ s (up1 (c_pr s) i [])) (c_pr s i)) m1 := RC_mv h (RCq_mv1 hq hi a2 a3 a4) a4 (by simp only [SEc, nop, plc, c_n_n, c_n_nm, c_n_bt, c_n_be, c_n_ld, c_n_hs, c_n_kl, c_n_ol, c_n_pr, c_n_dr, c_n_ev, c_n_na, c_n_ak, c_n_ms, c_n_ck, c_n_cp, c_n_cu, c_n_cb, c_n_bg, c_nm_n, c_nm_nm, c_nm_bt, c_nm_be, c_nm_ld, c_nm_hs, c_nm_kl, c_nm_ol, c_nm_pr, c_nm_dr, c_nm_ev, c_nm_na, c_nm_ak, c_nm_ms, c_nm_ck, c_nm_cp, c_nm_cu, c_nm_cb, c_nm_bg, c_bt_n, c_bt_nm, c_bt_bt, c_bt_be, c_bt_ld, c_bt_hs, c_bt_kl, c_bt_ol, c_bt_pr, c_bt_dr, c_bt_ev, c_bt_na, c_bt_ak, c_bt_ms, c_bt_ck, c_bt_cp, c_bt_cu, c_bt_cb, c_bt_bg, c_be_n, c_be_nm, c_be_bt, c_be_be, c_be_ld, c_be_hs, c_be_kl, c_be_ol, c_be_pr, c_be_dr, c_be_ev, c_be_na, c_be_ak, c_be_ms, c_be_ck, c_be_cp, c_be_cu, c_be_cb, c_be_bg, c_ld_n, c_ld_nm, c_ld_bt, c_ld_be, c_ld_ld, c_ld_hs, c_ld_kl, c_ld_ol, c_ld_pr, c_ld_dr, c_ld_ev, c_ld_na, c_ld_ak, c_ld_ms, c_ld_ck, c_ld_cp, c_ld_cu, c_ld_cb, c_ld_bg, c_hs_n, c_hs_nm, c_hs_bt, c_hs_be, c_hs_ld, c_hs_hs, c_hs_kl, c_hs_ol, c_hs_pr, c_hs_dr, c_hs_ev, c_hs_na, c_hs_ak, c_hs_ms, c_hs_ck, c_hs_cp, c_hs_cu, c_hs_cb, c_hs_bg, c_kl_n, c_kl_nm, c_kl_bt, c_kl_be, c_kl_ld, c_kl_hs, c_kl_kl, c_kl_ol, c_kl_pr, c_kl_dr, c_kl_ev, c_kl_na, c_kl_ak, c_kl_ms, c_kl_ck, c_kl_cp, c_kl_cu, c_kl_cb, c_kl_bg, c_ol_n, c_ol_nm, c_ol_bt, c_ol_be, c_ol_ld, c_ol_hs, c_ol_kl, c_ol_ol, c_ol_pr, c_ol_dr, c_ol_ev, c_ol_na, c_ol_ak, c_ol_ms, c_ol_ck, c_ol_cp, c_ol_cu, c_ol_cb, c_ol_bg, c_pr_n, c_pr_nm, c_pr_bt, c_pr_be, c_pr_ld, c_pr_hs, c_pr_kl, c_pr_ol, c_pr_pr, c_pr_dr, c_pr_ev, c_pr_na, c_pr_ak, c_pr_ms, c_pr_ck, c_pr_cp, c_pr_cu, c_pr_cb, c_pr_bg, c_dr_n, c_dr_nm, c_dr_bt, c_dr_be, c_dr_ld, c_dr_hs, c_dr_kl, c_dr_ol, c_dr_pr, c_dr_dr, c_dr_ev, c_dr_na, c_dr_ak, c_dr_ms, c_dr_ck, c_dr_cp, c_dr_cu, c_dr_cb, c_dr_bg, c_ev_n, c_ev_nm, c_ev_bt, c_ev_be, c_ev_ld, c_ev_hs, c_ev_kl, c_ev_ol, c_ev_pr, c_ev_dr, c_ev_ev, c_ev_na, c_ev_ak, c_ev_ms, c_ev_ck, c_ev_cp, c_ev_cu, c_ev_cb, c_ev_bg, c_na_n, c_na_nm, c_na_bt, c_na_be, c_na_ld, c_na_hs, c_na_kl, c_na_ol, c_na_pr, c_na_dr, c_na_ev, c_na_na, c_na_ak, c_na_ms, c_na_ck, c_na_cp, c_na_cu, c_na_cb, c_na_bg, c_ak_n, c_ak_nm, c_ak_bt, c_ak_be, c_ak_ld, c_ak_hs, c_ak_kl, c_ak_ol, c_ak_pr, c_ak_dr, c_ak_ev, c_ak_na, c_ak_ak, c_ak_ms, c_ak_ck, c_ak_cp, c_ak_cu, c_ak_cb, c_ak_bg, c_ms_n, c_ms_nm, c_ms_bt, c_ms_be, c_ms_ld, c_ms_hs, c_ms_kl, c_ms_ol, c_ms_pr, c_ms_dr, c_ms_ev, c_ms_na, c_ms_ak, c_ms_ms, c_ms_ck, c_ms_cp, c_ms_cu, c_ms_cb, c_ms_bg, c_ck_n, c_ck_nm, c_ck_bt, c_ck_be, c_ck_ld, c_ck_hs, c_ck_kl, c_ck_ol, c_ck_pr, c_ck_dr, c_ck_ev, c_ck_na, c_ck_ak, c_ck_ms, c_ck_ck, c_ck_cp, c_ck_cu, c_ck_cb, c_ck_bg, c_cp_n, c_cp_nm, c_cp_bt, c_cp_be, c_cp_ld, c_cp_hs, c_cp_kl, c_cp_ol, c_cp_pr, c_cp_dr, c_cp_ev, c_cp_na, c_cp_ak, c_cp_ms, c_cp_ck, c_cp_cp, c_cp_cu, c_cp_cb, c_cp_bg, c_cu_n, c_cu_nm, c_cu_bt, c_cu_be, c_cu_ld, c_cu_hs, c_cu_kl, c_cu_ol, c_cu_pr, c_cu_dr, c_cu_ev, c_cu_na, c_cu_ak, c_cu_ms, c_cu_ck, c_cu_cp, c_cu_cu, c_cu_cb, c_cu_bg, c_cb_n, c_cb_nm, c_cb_bt, c_cb_be, c_cb_ld, c_cb_hs, c_cb_kl, c_cb_ol, c_cb_pr, c_cb_dr, c_cb_ev, c_cb_na, c_cb_ak, c_cb_ms, c_cb_ck, c_cb_cp, c_cb_cu, c_cb_cb, c_cb_bg, c_bg_n, c_bg_nm, c_bg_bt, c_bg_be, c_bg_ld, c_bg_hs, c_bg_kl, c_bg_ol, c_bg_pr, c_bg_dr, c_bg_ev, c_bg_na, c_bg_ak, c_bg_ms, c_bg_ck, c_bg_cp, c_bg_cu, c_bg_cb, c_bg_bg, and_self]) ⟨rfl, rfl, rfl, rfl⟩
    have n0 : go 27 0 [some (vr 6 (some i)), some (vi 0), some (vi 0)] [] m1 = some (some (vr (tgN s i 0) (lnk s i 0 0)), m1) := go_next (l := 0) (d := 0) R1.1 hi (by decide) (by decide)
    have n1 : go 27 0 [some (vr 6 (some i)), some (vi 0), some (vi 1)] [] m1 = some (some (vr (tgN s i 0) (lnk s i 0 1)), m1) := go_next (l := 0) (d := 1) R1.1 hi (by decide) (by decide)
    have t0 := tg_ok s i 0 0
    have a1 : go 21 0 [some (vr 5 (some (i + 1))), some (vr 5 (some 0)), some (vi 0), some (vi (nI (c_pr s i).length)), none] [] m = some (none, m1) := a1
    have k1 := R1.2.2.2.2.1.1
    cases hl : lnk s i 0 0 with
    | some p => 
      rw [hl] at n0 t0
      have t0 : tgN s i 0 = 6 := by
        rcases t0 with z | z
        · cases z
        · exact z
      rw [t0] at n0
      obtain ⟨m2, b1, b2, b3⟩ := go_addPlain (so := 10) (t := 6) (to := some p) R1 hc (Or.inr rfl)
      have b1 : go 11 0 [some (vr 3 (some 0)), some (vi 10), some (vr 6 (some p))] [] m1 = some (none, m2) := b1
      refine ⟨m2, ?_, b2, fK_tr (fK_fr a4 QP_K) b3⟩
      simp only [s49_0, s49_1, s49_4, s49_7, s49_10, s49_11, s49_12, s49_15, s49_16, s49_19, s49_22, s49_23, s49_24, s49_27, s49_30, s49_33, s49_34, s49_35, s49_36, s49_39i, s49_39r, s49_39n, s49_40, s49_41, s49_44, s49_46, s49_47n, s49_47s, s49_50, s49_51, s49_54, s49_55, s49_56, s49_57, s49_60, s49_63, eq_self, ixk_some, bd_some, nl_n, nl_i, nl_r, Option.toList_some, Option.toList_none, List.cons_append, List.nil_append, g9, g3, hne, ne_eq, not_false_eq_true, if_true, c1, c7, a1, n0, k1, b1]
    | none => 
      rw [hl] at n0
      obtain ⟨m2, b1, b2, b3⟩ := go_addPlain (so := 10) R1 hc (tg_ok s i 0 1)
      have b1 : go 11 0 [some (vr 3 (some 0)), some (vi 10), some (vr (tgN s i 0) (lnk s i 0 1))] [] m1 = some (none, m2) := b1
      refine ⟨m2, ?_, b2, fK_tr (fK_fr a4 QP_K) b3⟩
      simp only [s49_0, s49_1, s49_4, s49_7, s49_10, s49_11, s49_12, s49_15, s49_16, s49_19, s49_22, s49_23, s49_24, s49_27, s49_30, s49_33, s49_34, s49_35, s49_36, s49_39i, s49_39r, s49_39n, s49_40, s49_41, s49_44, s49_46, s49_47n, s49_47s, s49_50, s49_51, s49_54, s49_55, s49_56, s49_57, s49_60, s49_63, eq_self, ixk_some, bd_some, nl_n, nl_i, nl_r, Option.toList_some, Option.toList_none, List.cons_append, List.nil_append, g9, g3, hne, ne_eq, not_false_eq_true, if_true, c1, c7, a1, n0, n1, k1, b1]
def given (s : ST) (w : Nat) : ST :=
  let u := c_cp s
  if c_nm s w < c_nm s u then
      snd1 (c_bg_ (c_pr_ s (up1 (c_pr s) w ((c_pr s w).filter fun q => decide (q.1 < c_nm s u)))) ((c_pr s w).filter fun q => decide (c_nm s u ≤ q.1))) (6, u, none, none, 0, some w, lnk s w 0 1)
    else
      snd1 (c_bg_ (c_pr_ s (up1 (c_pr s) w ((c_pr s w).filter fun q => decide (c_nm s w ≤ q.1)))) ((c_pr s w).filter fun q => decide (q.1 < c_nm s w))) (6, u, none, none, 0, none, some w)
theorem go_sendGive {s : ST} {m : MM} {w : Nat} (h : RC s m) (hw : w < c_n s) (hu : c_cp s < c_n s) (hs : srt (c_pr s w)) (hb : c_bg s = []) (hc : (c_ms s).length < 192) :
    ∃ m', go 76 0 [some (vr 7 (some 0)), some (vr 6 (some (c_cp s))), some (vr 6 (some w))] [] m = some (none, m') ∧ RC (given s w) m' ∧ fK m m' := by
  have g9 := (h.1.2.2.2.2.2.2 w hw).2.2.2.2.2.2.2.2.2.1
  have gw := (h.1.2.2.2.2.2.2 w hw).2.1
  have gu := (h.1.2.2.2.2.2.2 _ hu).2.1
  have hq := h.2.2.2.2.2.1
  have g3 := (hq.2 w hw).1.2.2.1
  have g4 := (hq.2 w hw).1.2.2.2.1
  have c1 := h.2.1.1
  have c7 := h.2.1.2.2.2.2.2.2
  unfold given
  by_cases h0 : c_nm s w < c_nm s (c_cp s)
  · obtain ⟨f1, f2⟩ := bl_take (c_nm s (c_cp s)) _ hs
    simp only [if_pos h0]
    rw [f1, f2]
    have a0 := go_bl (key := c_nm s (c_cp s)) (hq.2 w hw)
    have hble := bl_le (c_nm s (c_cp s)) (c_pr s w)
    generalize bl (c_nm s (c_cp s)) (c_pr s w) = a at *
    have e0 : (inl1 (c_bg s) (((c_pr s w).drop a).take ((c_pr s w).length - a))) = (c_pr s w).drop a := by
      rw [hb, List.take_of_length_le (by rw [List.length_drop]; omega), inl1_srt (List.drop a (c_pr s w)) [] (srt_drop a hs)]
      rfl
    obtain ⟨m1, a1, a2, a3, a4⟩ := go_moveTo (p := w + 1) (q := 0) (a := a) (b := (c_pr s w).length) (by omega) (hq.2 w hw) hq.1 hble (Nat.le_refl _) (by rw [e0, List.length_drop]; omega)
    rw [e0] at a3
    have e1 : (c_pr s w).take a ++ (c_pr s w).drop (c_pr s w).length = (c_pr s w).take a := by simp
    rw [e1] at a2
    have R1 : RC (c_bg_ (c_pr_ s (up1 (c_pr s) w ((c_pr s w).take a))) ((c_pr s w).drop a)) m1 := RC_mv h (RCq_mv1 hq hw a2 a3 a4) a4 (by simp only [SEc, nop, plc, c_n_n, c_n_nm, c_n_bt, c_n_be, c_n_ld, c_n_hs, c_n_kl, c_n_ol, c_n_pr, c_n_dr, c_n_ev, c_n_na, c_n_ak, c_n_ms, c_n_ck, c_n_cp, c_n_cu, c_n_cb, c_n_bg, c_nm_n, c_nm_nm, c_nm_bt, c_nm_be, c_nm_ld, c_nm_hs, c_nm_kl, c_nm_ol, c_nm_pr, c_nm_dr, c_nm_ev, c_nm_na, c_nm_ak, c_nm_ms, c_nm_ck, c_nm_cp, c_nm_cu, c_nm_cb, c_nm_bg, c_bt_n, c_bt_nm, c_bt_bt, c_bt_be, c_bt_ld, c_bt_hs, c_bt_kl, c_bt_ol, c_bt_pr, c_bt_dr, c_bt_ev, c_bt_na, c_bt_ak, c_bt_ms, c_bt_ck, c_bt_cp, c_bt_cu, c_bt_cb, c_bt_bg, c_be_n, c_be_nm, c_be_bt, c_be_be, c_be_ld, c_be_hs, c_be_kl, c_be_ol, c_be_pr, c_be_dr, c_be_ev, c_be_na, c_be_ak, c_be_ms, c_be_ck, c_be_cp, c_be_cu, c_be_cb, c_be_bg, c_ld_n, c_ld_nm, c_ld_bt, c_ld_be, c_ld_ld, c_ld_hs, c_ld_kl, c_ld_ol, c_ld_pr, c_ld_dr, c_ld_ev, c_ld_na, c_ld_ak, c_ld_ms, c_ld_ck, c_ld_cp, c_ld_cu, c_ld_cb, c_ld_bg, c_hs_n, c_hs_nm, c_hs_bt, c_hs_be, c_hs_ld, c_hs_hs, c_hs_kl, c_hs_ol, c_hs_pr, c_hs_dr, c_hs_ev, c_hs_na, c_hs_ak, c_hs_ms, c_hs_ck, c_hs_cp, c_hs_cu, c_hs_cb, c_hs_bg, c_kl_n, c_kl_nm, c_kl_bt, c_kl_be, c_kl_ld, c_kl_hs, c_kl_kl, c_kl_ol, c_kl_pr, c_kl_dr, c_kl_ev, c_kl_na, c_kl_ak, c_kl_ms, c_kl_ck, c_kl_cp, c_kl_cu, c_kl_cb, c_kl_bg, c_ol_n, c_ol_nm, c_ol_bt, c_ol_be, c_ol_ld, c_ol_hs, c_ol_kl, c_ol_ol, c_ol_pr, c_ol_dr, c_ol_ev, c_ol_na, c_ol_ak, c_ol_ms, c_ol_ck, c_ol_cp, c_ol_cu, c_ol_cb, c_ol_bg, c_pr_n, c_pr_nm, c_pr_bt, c_pr_be, c_pr_ld, c_pr_hs, c_pr_kl, c_pr_ol, c_pr_pr, c_pr_dr, c_pr_ev, c_pr_na, c_pr_ak, c_pr_ms, c_pr_ck, c_pr_cp, c_pr_cu, c_pr_cb, c_pr_bg, c_dr_n, c_dr_nm, c_dr_bt, c_dr_be, c_dr_ld, c_dr_hs, c_dr_kl, c_dr_ol, c_dr_pr, c_dr_dr, c_dr_ev, c_dr_na, c_dr_ak, c_dr_ms, c_dr_ck, c_dr_cp, c_dr_cu, c_dr_cb, c_dr_bg, c_ev_n, c_ev_nm, c_ev_bt, c_ev_be, c_ev_ld, c_ev_hs, c_ev_kl, c_ev_ol, c_ev_pr, c_ev_dr, c_ev_ev, c_ev_na, c_ev_ak, c_ev_ms, c_ev_ck, c_ev_cp, c_ev_cu, c_ev_cb, c_ev_bg, c_na_n, c_na_nm, c_na_bt, c_na_be, c_na_ld, c_na_hs, c_na_kl, c_na_ol, c_na_pr, c_na_dr, c_na_ev, c_na_na, c_na_ak, c_na_ms, c_na_ck, c_na_cp, c_na_cu, c_na_cb, c_na_bg, c_ak_n, c_ak_nm, c_ak_bt, c_ak_be, c_ak_ld, c_ak_hs, c_ak_kl, c_ak_ol, c_ak_pr, c_ak_dr, c_ak_ev, c_ak_na, c_ak_ak, c_ak_ms, c_ak_ck, c_ak_cp, c_ak_cu, c_ak_cb, c_ak_bg, c_ms_n, c_ms_nm, c_ms_bt, c_ms_be, c_ms_ld, c_ms_hs, c_ms_kl, c_ms_ol, c_ms_pr, c_ms_dr, c_ms_ev, c_ms_na, c_ms_ak, c_ms_ms, c_ms_ck, c_ms_cp, c_ms_cu, c_ms_cb, c_ms_bg, c_ck_n, c_ck_nm, c_ck_bt, c_ck_be, c_ck_ld, c_ck_hs, c_ck_kl, c_ck_ol, c_ck_pr, c_ck_dr, c_ck_ev, c_ck_na, c_ck_ak, c_ck_ms, c_ck_ck, c_ck_cp, c_ck_cu, c_ck_cb, c_ck_bg, c_cp_n, c_cp_nm, c_cp_bt, c_cp_be, c_cp_ld, c_cp_hs, c_cp_kl, c_cp_ol, c_cp_pr, c_cp_dr, c_cp_ev, c_cp_na, c_cp_ak, c_cp_ms, c_cp_ck, c_cp_cp, c_cp_cu, c_cp_cb, c_cp_bg, c_cu_n, c_cu_nm, c_cu_bt, c_cu_be, c_cu_ld, c_cu_hs, c_cu_kl, c_cu_ol, c_cu_pr, c_cu_dr, c_cu_ev, c_cu_na, c_cu_ak, c_cu_ms, c_cu_ck, c_cu_cp, c_cu_cu, c_cu_cb, c_cu_bg, c_cb_n, c_cb_nm, c_cb_bt, c_cb_be, c_cb_ld, c_cb_hs, c_cb_kl, c_cb_ol, c_cb_pr, c_cb_dr, c_cb_ev, c_cb_na, c_cb_ak, c_cb_ms, c_cb_ck, c_cb_cp, c_cb_cu, c_cb_cb, c_cb_bg, c_bg_n, c_bg_nm, c_bg_bt, c_bg_be, c_bg_ld, c_bg_hs, c_bg_kl, c_bg_ol, c_bg_pr, c_bg_dr, c_bg_ev, c_bg_na, c_bg_ak, c_bg_ms, c_bg_ck, c_bg_cp, c_bg_cu, c_bg_cb, c_bg_bg, and_self]) ⟨rfl, rfl, rfl, rfl⟩
    have n1 : go 27 0 [some (vr 6 (some w)), some (vi 0), some (vi 1)] [] m1 = some (some (vr (tgN s w 0) (lnk s w 0 1)), m1) := go_next (l := 0) (d := 1) R1.1 hw (by decide) (by decide)
    have k1 := R1.2.2.2.2.1.1
    obtain ⟨m2, b1, b2, b3⟩ := go_addo (so := 6) (sd := 0) (ta := 0) (t := 6) (tl := 6) (to := some (c_cp s)) (lv := none) (lf := some w) (rg := lnk s w 0 1) R1 hc (Or.inr rfl) (Or.inr rfl) (tg_ok s w 0 1)
    have b1 : go 12 0 [some (vr 3 (some 0)), some (vr 0 none), some (vi 6), some (vr 6 (some (c_cp s))), some (vi (-4)), some (vi 0), some (vr 6 (some w)), some (vr (tgN s w 0) (lnk s w 0 1)), none] [] m1 = some (none, m2) := b1
    refine ⟨m2, ?_, b2, fK_tr (fK_fr a4 QP_K) b3⟩
    have h0' : ¬ c_nm s (c_cp s) ≤ c_nm s w := i_nle.mpr h0
    simp only [s76_0, s76_1, s76_4, s76_5, s76_8, s76_11, s76_12, s76_15, s76_16, s76_19, s76_22, s76_23, s76_26, s76_27, s76_30, s76_33, s76_34, s76_37, s76_40, s76_43, s76_44, s76_47, s76_48, s76_50, s76_51, s76_53, s76_54, s76_55, s76_56, s76_57, s76_61, s76_64, s76_67, s76_68, s76_71, s76_72, s76_75, s76_78, s76_79, s76_80, s76_83, s76_84, s76_87, s76_90, s76_93, s76_94, s76_97, s76_98, s76_100, s76_101, s76_103, s76_104, s76_105, s76_106, s76_109, eq_self, ixk_some, bd_some, nl_n, nl_i, nl_r, Option.toList_some, Option.toList_none, List.cons_append, List.nil_append, gw, gu, if_neg h0', g9, c1, c7, a0, g3, a1, k1]
    rw [s76_58]
    · simp only [s76_0, s76_1, s76_4, s76_5, s76_8, s76_11, s76_12, s76_15, s76_16, s76_19, s76_22, s76_23, s76_26, s76_27, s76_30, s76_33, s76_34, s76_37, s76_40, s76_43, s76_44, s76_47, s76_48, s76_50, s76_51, s76_53, s76_54, s76_55, s76_56, s76_57, s76_61, s76_64, s76_67, s76_68, s76_71, s76_72, s76_75, s76_78, s76_79, s76_80, s76_83, s76_84, s76_87, s76_90, s76_93, s76_94, s76_97, s76_98, s76_100, s76_101, s76_103, s76_104, s76_105, s76_106, s76_109, eq_self, ixk_some, bd_some, nl_n, nl_i, nl_r, Option.toList_some, Option.toList_none, List.cons_append, List.nil_append, n1, b1]
    · exact Nat.le_of_ble_eq_true rfl
  · obtain ⟨f1, f2⟩ := bl_take (c_nm s w) _ hs
    simp only [if_neg h0]
    rw [f1, f2]
    have a0 := go_bl (key := c_nm s w) (hq.2 w hw)
    have hble := bl_le (c_nm s w) (c_pr s w)
    generalize bl (c_nm s w) (c_pr s w) = a at *
    have e0 : (inl1 (c_bg s) (((c_pr s w).drop 0).take (a - 0))) = (c_pr s w).take a := by
      rw [hb, List.drop_zero, Nat.sub_zero, inl1_srt (List.take a (c_pr s w)) [] (srt_take a hs)]
      rfl
    obtain ⟨m1, a1, a2, a3, a4⟩ := go_moveTo (p := w + 1) (q := 0) (a := 0) (b := a) (by omega) (hq.2 w hw) hq.1 (Nat.zero_le _) hble (by rw [e0, List.length_take]; omega)
    rw [e0] at a3
    have e1 : (c_pr s w).take 0 ++ (c_pr s w).drop a = (c_pr s w).drop a := by simp
    rw [e1] at a2
    have R1 : RC (c_bg_ (c_pr_ s (up1 (c_pr s) w ((c_pr s w).drop a))) ((c_pr s w).take a)) m1 := RC_mv h (RCq_mv1 hq hw a2 a3 a4) a4 (by simp only [SEc, nop, plc, c_n_n, c_n_nm, c_n_bt, c_n_be, c_n_ld, c_n_hs, c_n_kl, c_n_ol, c_n_pr, c_n_dr, c_n_ev, c_n_na, c_n_ak, c_n_ms, c_n_ck, c_n_cp, c_n_cu, c_n_cb, c_n_bg, c_nm_n, c_nm_nm, c_nm_bt, c_nm_be, c_nm_ld, c_nm_hs, c_nm_kl, c_nm_ol, c_nm_pr, c_nm_dr, c_nm_ev, c_nm_na, c_nm_ak, c_nm_ms, c_nm_ck, c_nm_cp, c_nm_cu, c_nm_cb, c_nm_bg, c_bt_n, c_bt_nm, c_bt_bt, c_bt_be, c_bt_ld, c_bt_hs, c_bt_kl, c_bt_ol, c_bt_pr, c_bt_dr, c_bt_ev, c_bt_na, c_bt_ak, c_bt_ms, c_bt_ck, c_bt_cp, c_bt_cu, c_bt_cb, c_bt_bg, c_be_n, c_be_nm, c_be_bt, c_be_be, c_be_ld, c_be_hs, c_be_kl, c_be_ol, c_be_pr, c_be_dr, c_be_ev, c_be_na, c_be_ak, c_be_ms, c_be_ck, c_be_cp, c_be_cu, c_be_cb, c_be_bg, c_ld_n, c_ld_nm, c_ld_bt, c_ld_be, c_ld_ld, c_ld_hs, c_ld_kl, c_ld_ol, c_ld_pr, c_ld_dr, c_ld_ev, c_ld_na, c_ld_ak, c_ld_ms, c_ld_ck, c_ld_cp, c_ld_cu, c_ld_cb, c_ld_bg, c_hs_n, c_hs_nm, c_hs_bt, c_hs_be, c_hs_ld, c_hs_hs, c_hs_kl, c_hs_ol, c_hs_pr, c_hs_dr, c_hs_ev, c_hs_na, c_hs_ak, c_hs_ms, c_hs_ck, c_hs_cp, c_hs_cu, c_hs_cb, c_hs_bg, c_kl_n, c_kl_nm, c_kl_bt, c_kl_be, c_kl_ld, c_kl_hs, c_kl_kl, c_kl_ol, c_kl_pr, c_kl_dr, c_kl_ev, c_kl_na, c_kl_ak, c_kl_ms, c_kl_ck, c_kl_cp, c_kl_cu, c_kl_cb, c_kl_bg, c_ol_n, c_ol_nm, c_ol_bt, c_ol_be, c_ol_ld, c_ol_hs, c_ol_kl, c_ol_ol, c_ol_pr, c_ol_dr, c_ol_ev, c_ol_na, c_ol_ak, c_ol_ms, c_ol_ck, c_ol_cp, c_ol_cu, c_ol_cb, c_ol_bg, c_pr_n, c_pr_nm, c_pr_bt, c_pr_be, c_pr_ld, c_pr_hs, c_pr_kl, c_pr_ol, c_pr_pr, c_pr_dr, c_pr_ev, c_pr_na, c_pr_ak, c_pr_ms, c_pr_ck, c_pr_cp, c_pr_cu, c_pr_cb, c_pr_bg, c_dr_n, c_dr_nm, c_dr_bt, c_dr_be, c_dr_ld, c_dr_hs, c_dr_kl, c_dr_ol, c_dr_pr, c_dr_dr, c_dr_ev, c_dr_na, c_dr_ak, c_dr_ms, c_dr_ck, c_dr_cp, c_dr_cu, c_dr_cb, c_dr_bg, c_ev_n, c_ev_nm, c_ev_bt, c_ev_be, c_ev_ld, c_ev_hs, c_ev_kl, c_ev_ol, c_ev_pr, c_ev_dr, c_ev_ev, c_ev_na, c_ev_ak, c_ev_ms, c_ev_ck, c_ev_cp, c_ev_cu, c_ev_cb, c_ev_bg, c_na_n, c_na_nm, c_na_bt, c_na_be, c_na_ld, c_na_hs, c_na_kl, c_na_ol, c_na_pr, c_na_dr, c_na_ev, c_na_na, c_na_ak, c_na_ms, c_na_ck, c_na_cp, c_na_cu, c_na_cb, c_na_bg, c_ak_n, c_ak_nm, c_ak_bt, c_ak_be, c_ak_ld, c_ak_hs, c_ak_kl, c_ak_ol, c_ak_pr, c_ak_dr, c_ak_ev, c_ak_na, c_ak_ak, c_ak_ms, c_ak_ck, c_ak_cp, c_ak_cu, c_ak_cb, c_ak_bg, c_ms_n, c_ms_nm, c_ms_bt, c_ms_be, c_ms_ld, c_ms_hs, c_ms_kl, c_ms_ol, c_ms_pr, c_ms_dr, c_ms_ev, c_ms_na, c_ms_ak, c_ms_ms, c_ms_ck, c_ms_cp, c_ms_cu, c_ms_cb, c_ms_bg, c_ck_n, c_ck_nm, c_ck_bt, c_ck_be, c_ck_ld, c_ck_hs, c_ck_kl, c_ck_ol, c_ck_pr, c_ck_dr, c_ck_ev, c_ck_na, c_ck_ak, c_ck_ms, c_ck_ck, c_ck_cp, c_ck_cu, c_ck_cb, c_ck_bg, c_cp_n, c_cp_nm, c_cp_bt, c_cp_be, c_cp_ld, c_cp_hs, c_cp_kl, c_cp_ol, c_cp_pr, c_cp_dr, c_cp_ev, c_cp_na, c_cp_ak, c_cp_ms, c_cp_ck, c_cp_cp, c_cp_cu, c_cp_cb, c_cp_bg, c_cu_n, c_cu_nm, c_cu_bt, c_cu_be, c_cu_ld, c_cu_hs, c_cu_kl, c_cu_ol, c_cu_pr, c_cu_dr, c_cu_ev, c_cu_na, c_cu_ak, c_cu_ms, c_cu_ck, c_cu_cp, c_cu_cu, c_cu_cb, c_cu_bg, c_cb_n, c_cb_nm, c_cb_bt, c_cb_be, c_cb_ld, c_cb_hs, c_cb_kl, c_cb_ol, c_cb_pr, c_cb_dr, c_cb_ev, c_cb_na, c_cb_ak, c_cb_ms, c_cb_ck, c_cb_cp, c_cb_cu, c_cb_cb, c_cb_bg, c_bg_n, c_bg_nm, c_bg_bt, c_bg_be, c_bg_ld, c_bg_hs, c_bg_kl, c_bg_ol, c_bg_pr, c_bg_dr, c_bg_ev, c_bg_na, c_bg_ak, c_bg_ms, c_bg_ck, c_bg_cp, c_bg_cu, c_bg_cb, c_bg_bg, and_self]) ⟨rfl, rfl, rfl, rfl⟩
    have k1 := R1.2.2.2.2.1.1
    obtain ⟨m2, b1, b2, b3⟩ := go_addo (so := 6) (sd := 0) (ta := 0) (t := 6) (tl := 0) (tr := 6) (to := some (c_cp s)) (lv := none) (lf := none) (rg := some w) R1 hc (Or.inr rfl) (Or.inl rfl) (Or.inr rfl)
    have b1 : go 12 0 [some (vr 3 (some 0)), some (vr 0 none), some (vi 6), some (vr 6 (some (c_cp s))), some (vi (-4)), some (vi 0), some (vr 0 none), some (vr 6 (some w)), none] [] m1 = some (none, m2) := b1
    refine ⟨m2, ?_, b2, fK_tr (fK_fr a4 QP_K) b3⟩
    have h0' : c_nm s (c_cp s) ≤ c_nm s w := i_nlt.mp h0
    have a1 : go 21 0 [some (vr 5 (some (w + 1))), some (vr 5 (some 0)), some (vi 0), some (vi (nI a)), none] [] m = some (none, m1) := a1
    simp only [s76_0, s76_1, s76_4, s76_5, s76_8, s76_11, s76_12, s76_15, s76_16, s76_19, s76_22, s76_23, s76_26, s76_27, s76_30, s76_33, s76_34, s76_37, s76_40, s76_43, s76_44, s76_47, s76_48, s76_50, s76_51, s76_53, s76_54, s76_55, s76_56, s76_57, s76_58, s76_61, s76_64, s76_67, s76_68, s76_71, s76_72, s76_75, s76_78, s76_79, s76_80, s76_83, s76_84, s76_87, s76_90, s76_93, s76_94, s76_97, s76_98, s76_100, s76_101, s76_103, s76_104, s76_105, s76_106, s76_109, eq_self, ixk_some, bd_some, nl_n, nl_i, nl_r, Option.toList_some, Option.toList_none, List.cons_append, List.nil_append, gw, gu, if_pos h0', g9, c1, c7, a0, a1, k1, b1]
theorem join_eq (s : ST) (w : Nat) : comesJoin s w = match onw s w (c_nm s (c_cp s)) with | some p => snd1 s (5, p, none, none, 0, none, none) | none => given s w := rfl
theorem go_joinComes {s : ST} {m : MM} {w : Nat} (h : RC s m) (hcl : CLs s) (hw : w < c_n s) (hu : c_cp s < c_n s) (hs : srt (c_pr s w)) (hb : c_bg s = []) (hc : (c_ms s).length < 192) (ha : onw s w (c_nm s (c_cp s)) = none → awy s w = false) :
    ∃ m', go 75 0 [some (vr 7 (some 0)), some (vr 6 (some (c_cp s))), some (vr 6 (some w)), none] [] m = some (none, m') ∧ RC (comesJoin s w) m' ∧ fK m m' := by
  have gu := (h.1.2.2.2.2.2.2 _ hu).2.1
  obtain ⟨t, a1, a2⟩ := go_onward (x := c_nm s (c_cp s)) h.1 hcl hw
  have k1 := h.2.2.2.2.1.1
  rw [join_eq]
  cases ho : onw s w (c_nm s (c_cp s)) with
  | some p => 
    rw [ho] at a1 a2
    have ht : t = 6 := by
      rcases a1 with z | z
      · cases z
      · exact z
    subst ht
    obtain ⟨m2, b1, b2, b3⟩ := go_addPlain (so := 5) (t := 6) (to := some p) h hc (Or.inr rfl)
    have b1 : go 11 0 [some (vr 3 (some 0)), some (vi 5), some (vr 6 (some p))] [] m = some (none, m2) := b1
    refine ⟨m2, ?_, b2, b3⟩
    simp only [s75_0, s75_1, s75_2, s75_5, s75_8i, s75_8r, s75_8n, s75_9, s75_10n, s75_10s, s75_13, s75_14, s75_17, s75_18, s75_19, s75_22, s75_25, s75_26, s75_29, s75_32, s75_33, s75_34, s75_35, s75_38, eq_self, ixk_some, bd_some, nl_n, nl_i, nl_r, Option.toList_some, Option.toList_none, List.cons_append, List.nil_append, gu, a2, k1, b1]
  | none => 
    rw [ho] at a2
    have a3 := go_isAway h.1 hw
    rw [ha ho, b2_f] at a3
    obtain ⟨m2, b1, b2, b3⟩ := go_sendGive h hw hu hs hb hc
    refine ⟨m2, ?_, b2, b3⟩
    simp [s75_0, s75_1, s75_2, s75_5, s75_8i, s75_8r, s75_8n, s75_9, s75_10n, s75_10s, s75_13, s75_14, s75_17, s75_18, s75_19, s75_22, s75_25, s75_26, s75_29, s75_32, s75_33, s75_34, s75_35, s75_38, eq_self, ixk_some, bd_some, nl_n, nl_i, nl_r, Option.toList_some, Option.toList_none, List.cons_append, List.nil_append, gu, a2, a3, b1]
