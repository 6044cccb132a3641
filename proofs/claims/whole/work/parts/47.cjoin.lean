/-! the class: handOver, sendGive, joinComes -/
def srt (L : PRS) : Prop := L.Pairwise (fun a b => a.1 < b.1)
theorem ins_end : ∀ (M : PRS) (k : Int32) (v : Int64), (∀ q ∈ M, q.1 < k) → ins M k v = M ++ [(k, v)]
  | [], _, _, _ => rfl
  | q :: r, k, v, h => by
    show (if q.1 < k then q :: ins r k v else if q.1 = k then (k, v) :: r else (k, v) :: q :: r) = _
    rw [if_pos (h q (List.mem_cons_self ..)), ins_end r k v (fun q hq => h q (List.mem_cons_of_mem _ hq))]
    rfl
theorem inl1_srt : ∀ (B M : PRS), srt (M ++ B) → inl1 M B = M ++ B
  | [], M, _ => (List.append_nil M).symm
  | q :: B, M, h => by
    show inl1 (ins M q.1 q.2) B = _
    have h1 : ∀ x ∈ M, x.1 < q.1 := fun x hx => (List.pairwise_append.mp h).2.2 x hx q (List.mem_cons_self ..)
    rw [ins_end M q.1 q.2 h1, inl1_srt B (M ++ [q]) (by rw [List.append_assoc]; exact h), List.append_assoc]
    rfl
theorem bl_take (key : Int32) : ∀ L : PRS, srt L → L.filter (fun q => decide (q.1 < key)) = L.take (bl key L) ∧ L.filter (fun q => decide (key ≤ q.1)) = L.drop (bl key L)
  | [], _ => ⟨rfl, rfl⟩
  | q :: r, h => by
    obtain ⟨h1, h2⟩ := List.pairwise_cons.mp h
    obtain ⟨i1, i2⟩ := bl_take key r h2
    by_cases hq : q.1 < key
    · have hn : ¬ key ≤ q.1 := by
        have a := Int32.lt_iff_toInt_lt.mp hq
        intro z
        have := Int32.le_iff_toInt_le.mp z
        omega
      simp only [bl, if_pos hq]
      rw [List.filter_cons_of_pos (by simpa using hq), List.filter_cons_of_neg (by simpa using hn), i1, i2, Nat.add_comm 1]
      exact ⟨rfl, rfl⟩
    · have hp : key ≤ q.1 := by
        apply Int32.le_iff_toInt_le.mpr
        have := fun z => hq (Int32.lt_iff_toInt_lt.mpr z)
        omega
      simp only [bl, if_neg hq]
      refine ⟨?_, ?_⟩
      · rw [List.take_zero, List.filter_eq_nil_iff]
        intro x hx
        have hp2 := Int32.le_iff_toInt_le.mp hp
        rcases List.mem_cons.mp hx with e | e
        · rw [e]; simpa using hq
        · have := Int32.lt_iff_toInt_lt.mp (h1 x e)
          intro z
          have := Int32.lt_iff_toInt_lt.mp (of_decide_eq_true z)
          omega
      · rw [List.drop_zero, List.filter_eq_self]
        intro x hx
        have hp2 := Int32.le_iff_toInt_le.mp hp
        apply decide_eq_true
        apply Int32.le_iff_toInt_le.mpr
        rcases List.mem_cons.mp hx with e | e
        · rw [e]; exact hp2
        · have := Int32.lt_iff_toInt_lt.mp (h1 x e)
          omega
theorem srt_take {L : PRS} (n : Nat) (h : srt L) : srt (L.take n) := List.Pairwise.sublist (List.take_sublist n L) h
theorem srt_drop {L : PRS} (n : Nat) (h : srt L) : srt (L.drop n) := List.Pairwise.sublist (List.drop_sublist n L) h
def firstO (a b : Option Nat) : Option Nat := match a with | some p => some p | none => b
def handed (s : ST) (i : Nat) : ST := if c_pr s i = [] then s else sndo (c_bg_ (c_pr_ s (up1 (c_pr s) i [])) (c_pr s i)) 10 (firstO (lnk s i 0 0) (lnk s i 0 1)) none 0 none none
theorem go_handOver {s : ST} {m : MM} {i : Nat} (h : RC s m) (hi : i < c_n s) (hs : srt (c_pr s i)) (hb : c_bg s = []) (hc : (c_ms s).length < 192) :
    ∃ m', go 49 0 [some (vr 7 (some 0)), some (vr 6 (some i)), none] [] m = some (none, m') ∧ RC (handed s i) m' ∧ fK m m' := by
  have g9 := (h.1.2.2.2.2.2.2 i hi).2.2.2.2.2.2.2.2.2.1
  have hq := h.2.2.2.2.2.1
  have g3 := (hq.2 i hi).1.2.2.1
  have g4 := (hq.2 i hi).1.2.2.2.1
  unfold handed
  by_cases h0 : c_pr s i = []
  · rw [if_pos h0]
    refine ⟨m, ?_, h, fK_rf m⟩
    rw [h0] at g3
    have g3 : mI m 5 (i + 1) 2 = 0 := g3
    simp [s49_0, s49_1, s49_4, s49_7, s49_10, s49_11, s49_12, s49_15, s49_16, s49_19, s49_22, s49_23, s49_24, s49_27, s49_30, s49_33, s49_34, s49_35, s49_36, s49_39i, s49_39r, s49_39n, s49_40, s49_41, s49_44, s49_46, s49_47n, s49_47s, s49_50, s49_51, s49_54, s49_55, s49_56, s49_57, s49_60, s49_63, eq_self, ixk_some, bd_some, nl_n, nl_i, nl_r, Option.toList_some, Option.toList_none, List.cons_append, List.nil_append, g9, g3]
  · rw [if_neg h0]
    have hlen : 0 < (c_pr s i).length := List.length_pos_iff.mpr h0
    have hne : ¬ nI (c_pr s i).length = 0 := by
      intro z
      have := congrArg Int32.toInt z
      rw [nI_toInt (by omega)] at this
      have : ((c_pr s i).length : Int) = 0 := this
      omega
    have c1 := h.2.1.1
    have c7 := h.2.1.2.2.2.2.2.2
    have e0 : (inl1 (c_bg s) (((c_pr s i).drop 0).take ((c_pr s i).length - 0))) = c_pr s i := by
      rw [hb, List.drop_zero, Nat.sub_zero, List.take_length, inl1_srt _ [] hs]
      rfl
    obtain ⟨m1, a1, a2, a3, a4⟩ := go_moveTo (p := i + 1) (q := 0) (a := 0) (b := (c_pr s i).length) (by omega) (hq.2 i hi) hq.1 (Nat.zero_le _) (Nat.le_refl _) (by rw [e0]; exact g4)
    rw [e0] at a3
    have e1 : (c_pr s i).take 0 ++ (c_pr s i).drop (c_pr s i).length = [] := by simp
    rw [e1] at a2
    have R1 : RC (c_bg_ (c_pr_ s (up1 (c_pr s) i [])) (c_pr s i)) m1 := RC_mv h (RCq_mv1 hq hi a2 a3 a4) a4 ⟨rfl, rfl, rfl, rfl, rfl, rfl, rfl, rfl, rfl, rfl, rfl, rfl, rfl⟩ ⟨rfl, rfl, rfl, rfl⟩
    have n0 : go 27 0 [some (vr 6 (some i)), some (vi 0), some (vi 0)] [] m1 = some (some (vr (tgN s i 0) (lnk s i 0 0)), m1) := go_next (l := 0) (d := 0) R1.1 hi (by decide) (by decide)
    have n1 : go 27 0 [some (vr 6 (some i)), some (vi 0), some (vi 1)] [] m1 = some (some (vr (tgN s i 0) (lnk s i 0 1)), m1) := go_next (l := 0) (d := 1) R1.1 hi (by decide) (by decide)
    have t0 := tg_ok s i 0 0
    have a1 : go 21 0 [some (vr 5 (some (i + 1))), some (vr 5 (some 0)), some (vi 0), some (vi (nI (c_pr s i).length)), none] [] m = some (none, m1) := a1
    have k1 := R1.2.2.2.2.1.1
    cases hl : lnk s i 0 0 with
    | some p => 
      rw [hl] at n0 t0
      have t0 : tgN s i 0 = 6 := by
        rcases t0 with z | z
        · cases z
        · exact z
      rw [t0] at n0
      obtain ⟨m2, b1, b2, b3⟩ := go_addPlain (so := 10) (t := 6) (to := some p) R1 hc (Or.inr rfl)
      have b1 : go 11 0 [some (vr 3 (some 0)), some (vi 10), some (vr 6 (some p))] [] m1 = some (none, m2) := b1
      refine ⟨m2, ?_, b2, fK_tr (fK_fr a4 QP_K) b3⟩
      simp only [s49_0, s49_1, s49_4, s49_7, s49_10, s49_11, s49_12, s49_15, s49_16, s49_19, s49_22, s49_23, s49_24, s49_27, s49_30, s49_33, s49_34, s49_35, s49_36, s49_39i, s49_39r, s49_39n, s49_40, s49_41, s49_44, s49_46, s49_47n, s49_47s, s49_50, s49_51, s49_54, s49_55, s49_56, s49_57, s49_60, s49_63, eq_self, ixk_some, bd_some, nl_n, nl_i, nl_r, Option.toList_some, Option.toList_none, List.cons_append, List.nil_append, g9, g3, hne, ne_eq, not_false_eq_true, if_true, c1, c7, a1, n0, k1, b1]
    | none => 
      rw [hl] at n0
      obtain ⟨m2, b1, b2, b3⟩ := go_addPlain (so := 10) R1 hc (tg_ok s i 0 1)
      have b1 : go 11 0 [some (vr 3 (some 0)), some (vi 10), some (vr (tgN s i 0) (lnk s i 0 1))] [] m1 = some (none, m2) := b1
      refine ⟨m2, ?_, b2, fK_tr (fK_fr a4 QP_K) b3⟩
      simp only [s49_0, s49_1, s49_4, s49_7, s49_10, s49_11, s49_12, s49_15, s49_16, s49_19, s49_22, s49_23, s49_24, s49_27, s49_30, s49_33, s49_34, s49_35, s49_36, s49_39i, s49_39r, s49_39n, s49_40, s49_41, s49_44, s49_46, s49_47n, s49_47s, s49_50, s49_51, s49_54, s49_55, s49_56, s49_57, s49_60, s49_63, eq_self, ixk_some, bd_some, nl_n, nl_i, nl_r, Option.toList_some, Option.toList_none, List.cons_append, List.nil_append, g9, g3, hne, ne_eq, not_false_eq_true, if_true, c1, c7, a1, n0, n1, k1, b1]
def given (s : ST) (w : Nat) : ST :=
  let u := c_cp s
  if c_nm s w < c_nm s u then
      snd1 (c_bg_ (c_pr_ s (up1 (c_pr s) w ((c_pr s w).filter fun q => decide (q.1 < c_nm s u)))) ((c_pr s w).filter fun q => decide (c_nm s u ≤ q.1))) (6, u, none, none, 0, some w, lnk s w 0 1)
    else
      snd1 (c_bg_ (c_pr_ s (up1 (c_pr s) w ((c_pr s w).filter fun q => decide (c_nm s w ≤ q.1)))) ((c_pr s w).filter fun q => decide (q.1 < c_nm s w))) (6, u, none, none, 0, none, some w)
theorem go_sendGive {s : ST} {m : MM} {w : Nat} (h : RC s m) (hw : w < c_n s) (hu : c_cp s < c_n s) (hs : srt (c_pr s w)) (hb : c_bg s = []) (hc : (c_ms s).length < 192) :
    ∃ m', go 76 0 [some (vr 7 (some 0)), some (vr 6 (some (c_cp s))), some (vr 6 (some w))] [] m = some (none, m') ∧ RC (given s w) m' ∧ fK m m' := by
  have g9 := (h.1.2.2.2.2.2.2 w hw).2.2.2.2.2.2.2.2.2.1
  have gw := (h.1.2.2.2.2.2.2 w hw).2.1
  have gu := (h.1.2.2.2.2.2.2 _ hu).2.1
  have hq := h.2.2.2.2.2.1
  have g3 := (hq.2 w hw).1.2.2.1
  have g4 := (hq.2 w hw).1.2.2.2.1
  have c1 := h.2.1.1
  have c7 := h.2.1.2.2.2.2.2.2
  unfold given
  by_cases h0 : c_nm s w < c_nm s (c_cp s)
  · obtain ⟨f1, f2⟩ := bl_take (c_nm s (c_cp s)) _ hs
    simp only [if_pos h0]
    rw [f1, f2]
    have a0 := go_bl (key := c_nm s (c_cp s)) (hq.2 w hw)
    have hble := bl_le (c_nm s (c_cp s)) (c_pr s w)
    generalize bl (c_nm s (c_cp s)) (c_pr s w) = a at *
    have e0 : (inl1 (c_bg s) (((c_pr s w).drop a).take ((c_pr s w).length - a))) = (c_pr s w).drop a := by
      rw [hb, List.take_of_length_le (by rw [List.length_drop]; omega), inl1_srt _ [] (srt_drop a hs)]
      rfl
    obtain ⟨m1, a1, a2, a3, a4⟩ := go_moveTo (p := w + 1) (q := 0) (a := a) (b := (c_pr s w).length) (by omega) (hq.2 w hw) hq.1 hble (Nat.le_refl _) (by rw [e0, List.length_drop]; omega)
    rw [e0] at a3
    have e1 : (c_pr s w).take a ++ (c_pr s w).drop (c_pr s w).length = (c_pr s w).take a := by simp
    rw [e1] at a2
    have R1 : RC (c_bg_ (c_pr_ s (up1 (c_pr s) w ((c_pr s w).take a))) ((c_pr s w).drop a)) m1 := RC_mv h (RCq_mv1 hq hw a2 a3 a4) a4 ⟨rfl, rfl, rfl, rfl, rfl, rfl, rfl, rfl, rfl, rfl, rfl, rfl, rfl⟩ ⟨rfl, rfl, rfl, rfl⟩
    have n1 : go 27 0 [some (vr 6 (some w)), some (vi 0), some (vi 1)] [] m1 = some (some (vr (tgN s w 0) (lnk s w 0 1)), m1) := go_next (l := 0) (d := 1) R1.1 hw (by decide) (by decide)
    have k1 := R1.2.2.2.2.1.1
    obtain ⟨m2, b1, b2, b3⟩ := go_addo (so := 6) (sd := 0) (ta := 0) (t := 6) (tl := 6) (to := some (c_cp s)) (lv := none) (lf := some w) (rg := lnk s w 0 1) R1 hc (Or.inr rfl) (Or.inr rfl) (tg_ok s w 0 1)
    have b1 : go 12 0 [some (vr 3 (some 0)), some (vr 0 none), some (vi 6), some (vr 6 (some (c_cp s))), some (vi (-4)), some (vi 0), some (vr 6 (some w)), some (vr (tgN s w 0) (lnk s w 0 1)), none] [] m1 = some (none, m2) := b1
    refine ⟨m2, ?_, b2, fK_tr (fK_fr a4 QP_K) b3⟩
    have h0' : ¬ c_nm s (c_cp s) ≤ c_nm s w := by
      have a := Int32.lt_iff_toInt_lt.mp h0
      intro z
      have := Int32.le_iff_toInt_le.mp z
      omega
    simp only [s76_0, s76_1, s76_4, s76_5, s76_8, s76_11, s76_12, s76_15, s76_16, s76_19, s76_22, s76_23, s76_26, s76_27, s76_30, s76_33, s76_34, s76_37, s76_40, s76_43, s76_44, s76_47, s76_48, s76_50, s76_51, s76_53, s76_54, s76_55, s76_56, s76_57, s76_58, s76_61, s76_64, s76_67, s76_68, s76_71, s76_72, s76_75, s76_78, s76_79, s76_80, s76_83, s76_84, s76_87, s76_90, s76_93, s76_94, s76_97, s76_98, s76_100, s76_101, s76_103, s76_104, s76_105, s76_106, s76_109, eq_self, ixk_some, bd_some, nl_n, nl_i, nl_r, Option.toList_some, Option.toList_none, List.cons_append, List.nil_append, gw, gu, if_neg h0', g9, c1, c7, a0, g3, a1, k1, n1, b1]
  · obtain ⟨f1, f2⟩ := bl_take (c_nm s w) _ hs
    simp only [if_neg h0]
    rw [f1, f2]
    have a0 := go_bl (key := c_nm s w) (hq.2 w hw)
    have hble := bl_le (c_nm s w) (c_pr s w)
    generalize bl (c_nm s w) (c_pr s w) = a at *
    have e0 : (inl1 (c_bg s) (((c_pr s w).drop 0).take (a - 0))) = (c_pr s w).take a := by
      rw [hb, List.drop_zero, Nat.sub_zero, inl1_srt _ [] (srt_take a hs)]
      rfl
    obtain ⟨m1, a1, a2, a3, a4⟩ := go_moveTo (p := w + 1) (q := 0) (a := 0) (b := a) (by omega) (hq.2 w hw) hq.1 (Nat.zero_le _) hble (by rw [e0, List.length_take]; omega)
    rw [e0] at a3
    have e1 : (c_pr s w).take 0 ++ (c_pr s w).drop a = (c_pr s w).drop a := by simp
    rw [e1] at a2
    have R1 : RC (c_bg_ (c_pr_ s (up1 (c_pr s) w ((c_pr s w).drop a))) ((c_pr s w).take a)) m1 := RC_mv h (RCq_mv1 hq hw a2 a3 a4) a4 ⟨rfl, rfl, rfl, rfl, rfl, rfl, rfl, rfl, rfl, rfl, rfl, rfl, rfl⟩ ⟨rfl, rfl, rfl, rfl⟩
    have k1 := R1.2.2.2.2.1.1
    obtain ⟨m2, b1, b2, b3⟩ := go_addo (so := 6) (sd := 0) (ta := 0) (t := 6) (tl := 0) (tr := 6) (to := some (c_cp s)) (lv := none) (lf := none) (rg := some w) R1 hc (Or.inr rfl) (Or.inl rfl) (Or.inr rfl)
    have b1 : go 12 0 [some (vr 3 (some 0)), some (vr 0 none), some (vi 6), some (vr 6 (some (c_cp s))), some (vi (-4)), some (vi 0), some (vr 0 none), some (vr 6 (some w)), none] [] m1 = some (none, m2) := b1
    refine ⟨m2, ?_, b2, fK_tr (fK_fr a4 QP_K) b3⟩
    have h0' : c_nm s (c_cp s) ≤ c_nm s w := by
      apply Int32.le_iff_toInt_le.mpr
      have := fun z => h0 (Int32.lt_iff_toInt_lt.mpr z)
      omega
    have a1 : go 21 0 [some (vr 5 (some (w + 1))), some (vr 5 (some 0)), some (vi 0), some (vi (nI a)), none] [] m = some (none, m1) := a1
    simp only [s76_0, s76_1, s76_4, s76_5, s76_8, s76_11, s76_12, s76_15, s76_16, s76_19, s76_22, s76_23, s76_26, s76_27, s76_30, s76_33, s76_34, s76_37, s76_40, s76_43, s76_44, s76_47, s76_48, s76_50, s76_51, s76_53, s76_54, s76_55, s76_56, s76_57, s76_58, s76_61, s76_64, s76_67, s76_68, s76_71, s76_72, s76_75, s76_78, s76_79, s76_80, s76_83, s76_84, s76_87, s76_90, s76_93, s76_94, s76_97, s76_98, s76_100, s76_101, s76_103, s76_104, s76_105, s76_106, s76_109, eq_self, ixk_some, bd_some, nl_n, nl_i, nl_r, Option.toList_some, Option.toList_none, List.cons_append, List.nil_append, gw, gu, if_pos h0', g9, c1, c7, a0, a1, k1, b1]
theorem join_eq (s : ST) (w : Nat) : comesJoin s w = match onw s w (c_nm s (c_cp s)) with | some p => snd1 s (5, p, none, none, 0, none, none) | none => given s w := rfl
theorem go_joinComes {s : ST} {m : MM} {w : Nat} (h : RC s m) (hcl : CLs s) (hw : w < c_n s) (hu : c_cp s < c_n s) (hs : srt (c_pr s w)) (hb : c_bg s = []) (hc : (c_ms s).length < 192) (ha : onw s w (c_nm s (c_cp s)) = none → awy s w = false) :
    ∃ m', go 75 0 [some (vr 7 (some 0)), some (vr 6 (some (c_cp s))), some (vr 6 (some w)), none] [] m = some (none, m') ∧ RC (comesJoin s w) m' ∧ fK m m' := by
  have gu := (h.1.2.2.2.2.2.2 _ hu).2.1
  obtain ⟨t, a1, a2⟩ := go_onward (x := c_nm s (c_cp s)) h.1 hcl hw
  have k1 := h.2.2.2.2.1.1
  rw [join_eq]
  cases ho : onw s w (c_nm s (c_cp s)) with
  | some p => 
    rw [ho] at a1 a2
    have ht : t = 6 := by
      rcases a1 with z | z
      · cases z
      · exact z
    subst ht
    obtain ⟨m2, b1, b2, b3⟩ := go_addPlain (so := 5) (t := 6) (to := some p) h hc (Or.inr rfl)
    have b1 : go 11 0 [some (vr 3 (some 0)), some (vi 5), some (vr 6 (some p))] [] m = some (none, m2) := b1
    refine ⟨m2, ?_, b2, b3⟩
    simp only [s75_0, s75_1, s75_2, s75_5, s75_8i, s75_8r, s75_8n, s75_9, s75_10n, s75_10s, s75_13, s75_14, s75_17, s75_18, s75_19, s75_22, s75_25, s75_26, s75_29, s75_32, s75_33, s75_34, s75_35, s75_38, eq_self, ixk_some, bd_some, nl_n, nl_i, nl_r, Option.toList_some, Option.toList_none, List.cons_append, List.nil_append, gu, a2, k1, b1]
  | none => 
    rw [ho] at a2
    have a3 := go_isAway h.1 hw
    rw [ha ho, b2_f] at a3
    obtain ⟨m2, b1, b2, b3⟩ := go_sendGive h hw hu hs hb hc
    refine ⟨m2, ?_, b2, b3⟩
    simp [s75_0, s75_1, s75_2, s75_5, s75_8i, s75_8r, s75_8n, s75_9, s75_10n, s75_10s, s75_13, s75_14, s75_17, s75_18, s75_19, s75_22, s75_25, s75_26, s75_29, s75_32, s75_33, s75_34, s75_35, s75_38, eq_self, ixk_some, bd_some, nl_n, nl_i, nl_r, Option.toList_some, Option.toList_none, List.cons_append, List.nil_append, gu, a2, a3, b1]
