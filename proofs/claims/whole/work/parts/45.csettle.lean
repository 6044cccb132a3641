/-! the class: linkComes, begin, settleChange -/
theorem go_linkComes {s : ST} {m : MM} {z l d t : Nat} {who : Option Nat} (h : RC s m) (hz : z < c_n s) (hl : l < 9) (hd : d < 2) (ht : who = none ∨ t = 6) :
    ∃ m', go 81 0 [some (vr 7 (some 0)), some (vr 6 (some z)), some (vi (nI l)), some (vi (nI d)), some (vr t who), none, none] [] m = some (none, m') ∧ RC (comesLink s z l d who) m' ∧ fK m m' := by
  have a0 := go_hasPlace (l := l) h.1 hz (by omega)
  have a1 := go_hasSomebody (l := l) h.1 hz hl
  have a2 := go_makePlace (l := l) h.1 hz (by omega)
  rw [if_pos hl] at a2
  have r1 : RCp (c_hs_ s (up2 (c_hs s) z l true)) (sI m 14 z l 1) := RCp_hs (b := true) h.1
  have hh : c_hs (c_hs_ s (up2 (c_hs s) z l true)) z l = true := if_pos ⟨rfl, rfl⟩
  have a3 := go_setNext (d := d) (t := t) (o := who) r1 hz hl hd ht hh
  have r2 := RCp_kl (i := z) (l := l) (d := d) (o := who) r1 hd
  have f2 : fr (QE z) m (sR (sI m 14 z l 1) 15 z (2 * l + d) who) := fr_tr (fr_sI m _ ⟨Or.inr (Or.inl rfl), rfl⟩) (fr_sR _ _ ⟨Or.inr (Or.inr rfl), rfl⟩)
  have a4 := go_hasSomebody (l := l) r2 hz hl
  generalize hm2 : sR (sI m 14 z l 1) 15 z (2 * l + d) who = m2 at *
  generalize hs1 : c_kl_ (c_hs_ s (up2 (c_hs s) z l true)) (up3 (c_kl (c_hs_ s (up2 (c_hs s) z l true))) z l d who) = s1 at *
  have e1 : c_n s1 = c_n s := by rw [← hs1]; rfl
  have eS : SEr s s1 := by rw [← hs1]; exact ⟨rfl, rfl, rfl, rfl, rfl, rfl, rfl, rfl, rfl, rfl, rfl, rfl⟩
  have R1 := RC_P h r2 f2 QE_P eS
  have hk : sbd s1 z l = !((c_kl s1 z l 0).isNone && (c_kl s1 z l 1).isNone) := by
    have : c_hs s1 z l = true := by rw [← hs1]; exact if_pos ⟨rfl, rfl⟩
    unfold sbd lnk
    rw [if_pos this, if_pos this]
  have a5 := go_drop (l := l + 1) r2 (by rw [e1]; exact hz) (by omega)
  obtain ⟨m3, a5, a6, a7⟩ := a5
  have R3 := RC_P R1 a6 a7 QE_P (s' := nop s1 z (l + 1)) ⟨rfl, rfl, rfl, rfl, rfl, rfl, rfl, rfl, rfl, rfl, rfl, rfl⟩
  have a8 := go_makePlace (l := l + 1) r2 (by rw [e1]; exact hz) (by omega)
  have s1' : nI l + 1 = nI (l + 1) := nI_1 l
  have main : ¬ (who = none ∧ c_hs s z l = false) → ∃ m', go 81 14 [some (vr 7 (some 0)), some (vr 6 (some z)), some (vi (nI l)), some (vi (nI d)), some (vr t who), none, none] [] m = some (none, m') ∧ RC (comesLink s z l d who) m' ∧ fK m m' := by
    intro hne
    unfold comesLink
    rw [if_neg hne]
    show ∃ m', _ ∧ RC (if ((c_kl (c_kl_ (c_hs_ s (up2 (c_hs s) z l true)) (up3 (c_kl (c_hs_ s (up2 (c_hs s) z l true))) z l d who)) z l 0).isNone && (c_kl (c_kl_ (c_hs_ s (up2 (c_hs s) z l true)) (up3 (c_kl (c_hs_ s (up2 (c_hs s) z l true))) z l d who)) z l 1).isNone) = true then nop (c_kl_ (c_hs_ s (up2 (c_hs s) z l true)) (up3 (c_kl (c_hs_ s (up2 (c_hs s) z l true))) z l d who)) z (l + 1) else if ((lnk s z l 0).isNone && (lnk s z l 1).isNone) = true ∧ l < 8 then c_hs_ (c_kl_ (c_hs_ s (up2 (c_hs s) z l true)) (up3 (c_kl (c_hs_ s (up2 (c_hs s) z l true))) z l d who)) (up2 (c_hs (c_kl_ (c_hs_ s (up2 (c_hs s) z l true)) (up3 (c_kl (c_hs_ s (up2 (c_hs s) z l true))) z l d who))) z (l + 1) true) else (c_kl_ (c_hs_ s (up2 (c_hs s) z l true)) (up3 (c_kl (c_hs_ s (up2 (c_hs s) z l true))) z l d who))) m' ∧ fK m m'
    rw [hs1]
    have hs0 : sbd s z l = !((lnk s z l 0).isNone && (lnk s z l 1).isNone) := rfl
    cases hb : ((c_kl s1 z l 0).isNone && (c_kl s1 z l 1).isNone)
    · rw [hk, hb] at a4
      simp only [Bool.false_eq_true, if_false]
      cases hb0 : ((lnk s z l 0).isNone && (lnk s z l 1).isNone)
      · rw [hs0, hb0] at a1
        simp only [Bool.false_eq_true, false_and, if_false]
        refine ⟨m2, ?_, R1, fK_fr f2 QE_K⟩
        simp [s81_0, s81_2n, s81_2s, s81_5, s81_6, s81_7, s81_10, s81_13, s81_14, s81_15, s81_16, s81_19i, s81_19r, s81_19n, s81_21, s81_22, s81_23, s81_26, s81_27, s81_28, s81_29, s81_31, s81_34, s81_35, s81_36, s81_39i, s81_39r, s81_39n, s81_41, s81_43, s81_46, s81_47, s81_48, s81_49, s81_50, s81_53, s81_56, s81_58, s81_61, s81_62, s81_63, s81_64, s81_65, s81_68, eq_self, ixk_some, bd_some, nl_n, nl_i, nl_r, Option.toList_some, Option.toList_none, List.cons_append, List.nil_append, a1, a2, a3, a4, b2]
      · rw [hs0, hb0] at a1
        simp only [true_and]
        by_cases h8 : l < 8
        · rw [if_pos h8]
          rw [if_pos (by omega)] at a8
          have r4 : RCp (c_hs_ s1 (up2 (c_hs s1) z (l + 1) true)) (sI m2 14 z (l + 1) 1) := RCp_hs (b := true) r2
          have f4 : fr (QE z) m2 (sI m2 14 z (l + 1) 1) := fr_sI m2 _ ⟨Or.inr (Or.inl rfl), rfl⟩
          refine ⟨sI m2 14 z (l + 1) 1, ?_, RC_P R1 r4 f4 QE_P ⟨rfl, rfl, rfl, rfl, rfl, rfl, rfl, rfl, rfl, rfl, rfl, rfl⟩, fK_fr (fr_tr f2 f4) QE_K⟩
          simp [s81_0, s81_2n, s81_2s, s81_5, s81_6, s81_7, s81_10, s81_13, s81_14, s81_15, s81_16, s81_19i, s81_19r, s81_19n, s81_21, s81_22, s81_23, s81_26, s81_27, s81_28, s81_29, s81_31, s81_34, s81_35, s81_36, s81_39i, s81_39r, s81_39n, s81_41, s81_43, s81_46, s81_47, s81_48, s81_49, s81_50, s81_53, s81_56, s81_58, s81_61, s81_62, s81_63, s81_64, s81_65, s81_68, eq_self, ixk_some, bd_some, nl_n, nl_i, nl_r, Option.toList_some, Option.toList_none, List.cons_append, List.nil_append, a1, a2, a3, a4, a8, s1', b2]
        · rw [if_neg h8]
          rw [if_neg (by omega)] at a8
          refine ⟨m2, ?_, R1, fK_fr f2 QE_K⟩
          simp [s81_0, s81_2n, s81_2s, s81_5, s81_6, s81_7, s81_10, s81_13, s81_14, s81_15, s81_16, s81_19i, s81_19r, s81_19n, s81_21, s81_22, s81_23, s81_26, s81_27, s81_28, s81_29, s81_31, s81_34, s81_35, s81_36, s81_39i, s81_39r, s81_39n, s81_41, s81_43, s81_46, s81_47, s81_48, s81_49, s81_50, s81_53, s81_56, s81_58, s81_61, s81_62, s81_63, s81_64, s81_65, s81_68, eq_self, ixk_some, bd_some, nl_n, nl_i, nl_r, Option.toList_some, Option.toList_none, List.cons_append, List.nil_append, a1, a2, a3, a4, a8, s1', b2]
    · rw [hk, hb] at a4
      simp only [if_true]
      refine ⟨m3, ?_, R3, fK_fr (fr_tr f2 a7) QE_K⟩
      simp [s81_0, s81_2n, s81_2s, s81_5, s81_6, s81_7, s81_10, s81_13, s81_14, s81_15, s81_16, s81_19i, s81_19r, s81_19n, s81_21, s81_22, s81_23, s81_26, s81_27, s81_28, s81_29, s81_31, s81_34, s81_35, s81_36, s81_39i, s81_39r, s81_39n, s81_41, s81_43, s81_46, s81_47, s81_48, s81_49, s81_50, s81_53, s81_56, s81_58, s81_61, s81_62, s81_63, s81_64, s81_65, s81_68, eq_self, ixk_some, bd_some, nl_n, nl_i, nl_r, Option.toList_some, Option.toList_none, List.cons_append, List.nil_append, a1, a2, a3, a4, a5, s1', b2]
  cases who with
  | some w => 
    obtain ⟨m', b1, b2⟩ := main (by simp)
    refine ⟨m', ?_, b2⟩
    rw [← b1]
    simp only [s81_0, s81_2n, s81_2s, eq_self, ixk_some, bd_some, nl_n, nl_i, nl_r, Option.toList_some, Option.toList_none, List.cons_append, List.nil_append]
  | none => 
    cases hp : c_hs s z l
    · refine ⟨m, ?_, ?_, fK_rf m⟩
      · rw [hp] at a0
        simp [s81_0, s81_2n, s81_2s, s81_5, s81_6, s81_7, s81_10, s81_13, eq_self, ixk_some, bd_some, nl_n, nl_i, nl_r, Option.toList_some, Option.toList_none, List.cons_append, List.nil_append, a0, b2]
      · unfold comesLink
        rw [if_pos ⟨rfl, hp⟩]
        exact h
    · obtain ⟨m', b1, b3⟩ := main (by simp [hp])
      refine ⟨m', ?_, b3⟩
      rw [hp] at a0
      rw [← b1]
      simp [s81_0, s81_2n, s81_2s, s81_5, s81_6, s81_7, s81_10, s81_13, eq_self, ixk_some, bd_some, nl_n, nl_i, nl_r, Option.toList_some, Option.toList_none, List.cons_append, List.nil_append, a0, b2, hl]
def bgM (m : MM) (k : Nat) (o : Option Nat) : MM := sI (sI (sR (sI m 2 0 0 (nI k)) 2 0 1 o) 2 0 2 0) 5 0 2 0
theorem go_begin {m : MM} {k t : Nat} {o : Option Nat} (h : mR m 2 0 4 = some 0) (ht : o = none ∨ t = 6) : go 7 0 [some (vr 2 (some 0)), some (vi (nI k)), some (vr t o)] [] m = some (none, bgM m k o) := by
  have p : ∀ ls st m2, go 7 7 ls (.inr (.inr (t, o)) :: .inr (.inr (2, some 0)) :: st) m2 = go 7 10 ls st (sR m2 2 0 1 o) := by
    intro ls st m2
    rcases ht with h | h
    · rw [h]; exact s7_7n
    · rw [h]; exact s7_7r
  simp only [s7_0, s7_1, s7_2, s7_5, s7_6, s7_10, s7_11, s7_12b0, s7_12b1, s7_15, s7_16, s7_19, s7_20, s7_23, eq_self, ixk_some, bd_some, nl_n, nl_i, nl_r, Option.toList_some, Option.toList_none, List.cons_append, List.nil_append, p, mI_sI, mR_sI, mR_sR, Nat.reduceEqDiff, false_and, if_false, and_false, h]
  rfl
theorem RCq_bg0 {s : ST} {m : MM} (h : RCq s m) : RCq (c_bg_ s []) (sI m 5 0 2 0) := by
  refine ⟨?_, fun j hj => ?_⟩
  · obtain ⟨⟨h1, h2, h3, h4, h5, h6⟩, h7⟩ := h.1
    exact ⟨⟨h1, h2, by rw [mI_sI, if_pos ⟨rfl, rfl, rfl⟩]; rfl, Nat.zero_le _, h5, h6⟩, fun k x hx => by
      have hx : ([] : PRS)[k]? = some x := hx
      simp at hx⟩
  · obtain ⟨⟨h1, h2, h3, h4, h5, h6⟩, h7⟩ := h.2 j hj
    exact ⟨⟨h1, h2, by rw [mI_sI, if_neg (by omega)]; exact h3, h4, h5, h6⟩, fun k x hx => h7 k x hx⟩
def SEc (s s' : ST) : Prop := c_n s' = c_n s ∧ c_nm s' = c_nm s ∧ c_bt s' = c_bt s ∧ c_be s' = c_be s ∧ c_ld s' = c_ld s ∧ c_hs s' = c_hs s ∧ c_kl s' = c_kl s ∧ c_ol s' = c_ol s ∧ c_dr s' = c_dr s ∧ c_ev s' = c_ev s ∧ c_na s' = c_na s ∧ c_ak s' = c_ak s ∧ c_ms s' = c_ms s
/-- the change's cells and pairs were written -/
theorem RC_C {s s' : ST} {m m' : MM} {Q : Nat → Nat → Prop} (h : RC s m) (hc : RCc s' m') (hp : RCq s' m') (hf : fr Q m m') (hq : ∀ r n, Q r n → r = 2 ∨ r = 5 ∨ r = 12 ∨ r = 13) (e : SEc s s') : RC s' m' := by
  obtain ⟨h1, h2, h3, h4, h5, h6, h7, h8⟩ := h
  obtain ⟨e1, e2, e3, e4, e5, e6, e7, e8, e9, e10, e11, e12, e13⟩ := e
  refine ⟨?_, hc, ?_, ?_, ?_, hp, ?_, ?_⟩
  · exact RCp_kl2 (RCp_fr h1 hf (fun r n z => by have := hq r n z; omega)) e1 e2 e3 e4 e5 (fun i l _ => by rw [e6]) (fun i l d _ _ => by rw [e7]) (fun i d _ => by rw [e8])
  · have := RCk_fr h3 hf (fun r n z => by have := hq r n z; omega)
    unfold RCk at this ⊢
    rw [e9, e10]; exact this
  · have := RCa_fr h4 hf (fun r n z => by have := hq r n z; omega)
    unfold RCa at this ⊢
    rw [e11, e12]; exact this
  · have := RCm_fr h5 hf (fun r n z => by have := hq r n z; omega)
    unfold RCm chM at this ⊢
    rw [e13]; exact this
  · have := RCs_fg h7 (fg_fr hf) (fun r n z => by have := hq r n z; omega)
    unfold RCs at this ⊢
    rw [e13]; exact this
  · have := RCn_fr h8 hf
    unfold RCn at this ⊢
    rw [e1, e11]; exact this
def QC : Nat → Nat → Prop := fun r _ => r = 2 ∨ r = 5 ∨ r = 12 ∨ r = 13
theorem QC_K : ∀ r n, QC r n → 1 ≤ r ∧ r ≤ 18 ∧ r ≠ 8 ∧ r ≠ 4 ∧ r ≠ 3 := fun r n z => by
  unfold QC at z
  omega
theorem bgM_fr (m : MM) (k : Nat) (o : Option Nat) : fr QC m (bgM m k o) := fr_tr (fr_sI m _ (Or.inl rfl)) (fr_tr (fr_sR _ _ (Or.inl rfl)) (fr_tr (fr_sI _ _ (Or.inl rfl)) (fr_sI _ _ (Or.inr (Or.inl rfl)))))
theorem bgM_q {s : ST} {m : MM} {k : Nat} {o : Option Nat} (h : RCq s m) : RCq (c_bg_ s []) (bgM m k o) := by
  have h1 : RCq s (sI m 2 0 0 (nI k)) := RCq_fr (Q := fun r _ => r = 2) h (fr_sI m _ rfl) (fun r n z => by omega)
  have h2 : RCq s (sR (sI m 2 0 0 (nI k)) 2 0 1 o) := RCq_fr (Q := fun r _ => r = 2) h1 (fr_sR _ _ rfl) (fun r n z => by omega)
  have h3 : RCq s (sI (sR (sI m 2 0 0 (nI k)) 2 0 1 o) 2 0 2 0) := RCq_fr (Q := fun r _ => r = 2) h2 (fr_sI _ _ rfl) (fun r n z => by omega)
  exact RCq_bg0 h3
theorem bg_on {s : ST} {m : MM} {k i : Nat} (h : RC s m) (hk : k = 1 ∨ k = 2) : RC (c_bg_ (c_cu_ (c_cp_ (c_ck_ s k) i) false) []) (bgM m k (some i)) := by
  refine RC_C h ?_ (bgM_q (s := c_cu_ (c_cp_ (c_ck_ s k) i) false) h.2.2.2.2.2.1) (bgM_fr m k (some i)) (fun r n z => z) ⟨rfl, rfl, rfl, rfl, rfl, rfl, rfl, rfl, rfl, rfl, rfl, rfl, rfl⟩
  obtain ⟨k1, k2, k3, k4, k5, k6, k7⟩ := h.2.1
  refine ⟨k1, rfl, by show k ≤ 3; omega, ?_, rfl, fun z => ?_, k7⟩
  · show some i = if k = 0 then none else some i
    rw [if_neg (by omega)]
  · exact absurd (show k = 3 from z) (by omega)
theorem bg_ag {s : ST} {m : MM} {i : Nat} {b : Int32} (h : RC s m) : RC (c_bg_ (c_cb_ (c_cu_ (c_cp_ (c_ck_ s 3) i) true) b) []) (sI (sI (bgM m 3 (some i)) 2 0 2 1) 2 0 3 b) := by
  refine RC_C h ?_ (RCq_fr (Q := fun r _ => r = 2) (bgM_q (k := 3) (o := some i) (s := (c_cb_ (c_cu_ (c_cp_ (c_ck_ s 3) i) true) b)) h.2.2.2.2.2.1) (fr_tr (fr_sI _ _ rfl) (fr_sI _ _ rfl)) (fun r n z => by omega)) (fr_tr (bgM_fr m 3 (some i)) (fr_tr (fr_sI _ _ (Or.inl rfl)) (fr_sI _ _ (Or.inl rfl)))) (fun r n z => z) ⟨rfl, rfl, rfl, rfl, rfl, rfl, rfl, rfl, rfl, rfl, rfl, rfl, rfl⟩
  obtain ⟨k1, k2, k3, k4, k5, k6, k7⟩ := h.2.1
  exact ⟨k1, rfl, by show 3 ≤ 3; omega, rfl, rfl, fun z => rfl, k7⟩
theorem bg_off {s : ST} {m : MM} (h : RC s m) (hc : c_cu s = false) : RC (c_bg_ (c_ck_ s 0) []) (bgM m 0 none) := by
  refine RC_C h ?_ (bgM_q (s := c_ck_ s 0) h.2.2.2.2.2.1) (bgM_fr m 0 none) (fun r n z => z) ⟨rfl, rfl, rfl, rfl, rfl, rfl, rfl, rfl, rfl, rfl, rfl, rfl, rfl⟩
  obtain ⟨k1, k2, k3, k4, k5, k6, k7⟩ := h.2.1
  refine ⟨k1, rfl, by show 0 ≤ 3; omega, rfl, ?_, fun z => ?_, k7⟩
  · show (0 : Int32) = b2 (c_cu s)
    rw [hc]; rfl
  · exact absurd (show 0 = 3 from z) (by omega)
