/-! the reference: isThere, comesAsk -/
theorem RR2_th {a : AK} {m : MM} {k : Nat} (h : RR2 a m k) : RR2 (a_th_ a true) (sI m 39 0 k 1) k := by
  obtain ⟨g1, g2, g3, g4, g5, g6, g7, g8, g9, g10, g11⟩ := h
  refine ⟨g1, g2, g3, g4, g5, g6, g7, ?_, g9, g10, g11⟩
  rw [mI_sI, if_pos ⟨rfl, rfl, rfl⟩]; rfl
theorem RR2_va {a : AK} {m : MM} {k : Nat} {v : Int64} (h : RR2 a m k) : RR2 (a_va_ a v) (sL m 42 0 k v) k := by
  obtain ⟨g1, g2, g3, g4, g5, g6, g7, g8, g9, g10, g11⟩ := h
  refine ⟨g1, g2, g3, g4, g5, g6, g7, g8, g9, g10, ?_⟩
  rw [mL_sL, if_pos ⟨rfl, rfl, rfl⟩]; rfl
/-- an ask's entries were written, what it is done or lost is as it was -/
theorem RR_ask0 {s : ST} {m m' : MM} {k : Nat} {a' : AK} (h : RR s m) (hf : fs (QN k) m m') (e1 : mI m' 8 0 17 = mI m 8 0 17) (e2 : mI m' 8 0 18 = mI m 8 0 18) (h2 : RR2 a' m' k) (ho : AKo a') (hd : a_dn a' = a_dn (c_ak s k)) (hl : a_lt a' = a_lt (c_ak s k)) : RR (c_ak_ s (up1 (c_ak s) k a')) m' := by
  refine RR_ask h hf h2 ho ?_ ?_
  · rw [e1, cnt_same a_dn hd]; exact h.2.2.2.1.2.2.1
  · rw [e2, cnt_same a_lt hl]; exact h.2.2.2.1.2.2.2.1
theorem RR_askget {s : ST} {m : MM} {k : Nat} {a : AK} (h : RR (c_ak_ s (up1 (c_ak s) k a)) m) (hk : k < c_na s) : RR2 a m k ∧ AKo a := by
  have h1 := h.2.2.2.1.2.2.2.2.1 k hk
  have h2 := h.2.2.2.1.2.2.2.2.2 k hk
  have e : c_ak (c_ak_ s (up1 (c_ak s) k a)) k = a := up1_get _ _ _
  rw [e] at h1 h2
  exact ⟨h1, h2⟩
/-- noted, if it is within -/
theorem rr_note {s : ST} {m : MM} {k u : Nat} {a3 : Option AV} (h : RR s m) (hk : k < c_na s) (hu : u < c_n s) (hp : a_nt (c_ak s k) + 1 < 2 ^ 30) (hd : a_dn (c_ak s k) = false) :
    ∃ m', (∀ r, go 123 204 [some (vr 8 (some 0)), some (vi (nI k)), some (vi (nI u)), a3] [] m' = r → go 123 129 [some (vr 8 (some 0)), some (vi (nI k)), some (vi (nI u)), a3] [] m = r) ∧ RR (c_ak_ s (up1 (c_ak s) k (noA s (a_th_ (c_ak s k) true) u))) m' ∧ fs QW m m' := by
  have h160 := h.2.2.2.1.1
  have hx := h.1.1
  have hn := h.1.2.1
  have h32 := h.1.2.2.1
  have gnm := (h.1.2.2.2.2.2 u hu).1
  obtain ⟨o1, o2, o3, o4, o5, o6, o7⟩ := h.2.2.2.1.2.2.2.2.2 k hk
  have A2 := RR2_th (h.2.2.2.1.2.2.2.2.1 k hk)
  have F1 : fs (QN k) m (sI m 39 0 k 1) := fsI (fs_rf _ m) (Or.inl ⟨by decide, by decide, by decide, rfl⟩)
  have i39 := ixN (FN_39 hn) (i := k) (by omega) (by decide)
  have i19 := ixN (FN_19 hn) (i := u) (by omega) (by decide)
  have i40 := ixN (FN_40 hn) (i := k) (by omega) (by decide)
  have i41 := ixN (FN_41 hn) (i := k) (by omega) (by decide)
  have i38 := ixN (FN_38 hn) (i := k) (by omega) (by decide)
  have R1 : RR (c_ak_ s (up1 (c_ak s) k (a_th_ (c_ak s k) true))) (sI m 39 0 k 1) := RR_ask0 h F1 rfl rfl A2 ⟨o1, o2, o3, o4, o5, o6, o7⟩ rfl rfl
  have gnm1 : mI (sI m 39 0 k 1) 19 0 u = c_nm s u := gnm
  obtain ⟨g1, g2, g3, g4, g5, g6, g7, g8, g9, g10, g11⟩ := A2
  have g7 : mI (sI m 39 0 k 1) 38 0 k = nI (a_nt (c_ak s k)) := g7
  have g9 : mI (sI m 39 0 k 1) 40 0 k = a_lo (c_ak s k) := g9
  have g10 : mI (sI m 39 0 k 1) 41 0 k = a_hi (c_ak s k) := g10
  have s1 : nI (a_nt (c_ak s k)) + 1 = nI (a_nt (c_ak s k) + 1) := nI_1 _
  have e40 : (40 : Int32) = nI 40 := rfl
  have no : ¬ (a_lo (c_ak s k) ≤ c_nm s u ∧ c_nm s u ≤ a_hi (c_ak s k)) → noA s (a_th_ (c_ak s k) true) u = a_th_ (c_ak s k) true := fun z => if_neg z
  by_cases h1 : a_lo (c_ak s k) ≤ c_nm s u
  · have h1' : ¬ c_nm s u < a_lo (c_ak s k) := i_nlt.mpr h1
    by_cases h3 : c_nm s u ≤ a_hi (c_ak s k)
    · have h3' : ¬ a_hi (c_ak s k) < c_nm s u := i_nlt.mpr h3
      have yes : noA s (a_th_ (c_ak s k) true) u = ntA (a_th_ (c_ak s k) true) u := if_pos ⟨h1, h3⟩
      rw [yes]
      by_cases hlt : a_nt (c_ak s k) < 40
      · have i37 := ixN (FN_37 hn) (i := 40 * k + a_nt (c_ak s k)) (by omega) (by decide)
        have F : fs (QN k) m (sI (sI (sI m 39 0 k 1) 37 0 (40 * k + a_nt (c_ak s k)) (nI u)) 38 0 k (nI (a_nt (c_ak s k) + 1))) := fsI (fsI F1 (Or.inr (Or.inl ⟨Or.inr rfl, by omega, by omega⟩))) (Or.inl ⟨by decide, by decide, by decide, rfl⟩)
        have en : ntA (a_th_ (c_ak s k) true) u = a_nt_ (a_no_ (a_th_ (c_ak s k) true) (a_no (c_ak s k) ++ [u])) (a_nt (c_ak s k) + 1) := by
          unfold ntA
          rw [if_pos (show a_nt (a_th_ (c_ak s k) true) < 40 from hlt)]
          rfl
        refine ⟨_, fun r hr => ?_, RR_ask0 h F rfl rfl ?_ ?_ (by rw [en]; rfl) (by rw [en]; rfl), fs_le F QN_W⟩
        · rw [← hr]
          have g7' : mI (sI (sI m 39 0 k 1) 37 0 (40 * k + a_nt (c_ak s k)) (nI u)) 38 0 k = nI (a_nt (c_ak s k)) := g7
          simp only [s123_129, s123_130, s123_133, s123_134, s123_135b0, s123_135b1, s123_136, s123_137, s123_140, s123_141, s123_142, s123_143, s123_146, s123_147, s123_148, s123_151, s123_152, s123_155, s123_156, s123_157, s123_158, s123_161, s123_162, s123_163, s123_166, s123_167, s123_170, s123_171, s123_172, s123_174, eq_self, ixk_some, bd_some, nl_n, nl_i, nl_r, Option.toList_some, Option.toList_none, List.cons_append, List.nil_append, mR_sI, mN_sI, FX_2 hx, FX_3 hx, FX_4 hx, FX_5 hx, FX_6 hx, FX_7 hx, FX_8 hx, FX_9 hx, FX_10 hx, FX_11 hx, FX_12 hx, FX_13 hx, FX_15 hx, FX_19 hx, FX_20 hx, FX_21 hx, FX_22 hx, FX_23 hx, FX_24 hx, FX_25 hx, FX_26 hx, FX_27 hx, FX_28 hx, FX_29 hx, FX_31 hx, FX_32 hx, FX_33 hx, FX_34 hx, FX_35 hx, FX_36 hx, FX_37 hx, FX_39 hx, FX_40 hx, i39, i19, gnm1, i40, g9, h1', if_false, i41, g10, h3', i38, g7]
          rw [e40, if_neg (nI_ge hlt (by omega))]
          simp only [s123_177, s123_178, s123_181, s123_183, s123_184, s123_185, s123_186, s123_189, s123_190, s123_191, s123_192, s123_193, s123_194, s123_195, s123_198, s123_199, s123_200, s123_201, s123_202, s123_203, eq_self, ixk_some, bd_some, nl_n, nl_i, nl_r, Option.toList_some, Option.toList_none, List.cons_append, List.nil_append, mR_sI, mN_sI, FX_2 hx, FX_3 hx, FX_4 hx, FX_5 hx, FX_6 hx, FX_7 hx, FX_8 hx, FX_9 hx, FX_10 hx, FX_11 hx, FX_12 hx, FX_13 hx, FX_15 hx, FX_19 hx, FX_20 hx, FX_21 hx, FX_22 hx, FX_23 hx, FX_24 hx, FX_25 hx, FX_26 hx, FX_27 hx, FX_28 hx, FX_29 hx, FX_31 hx, FX_32 hx, FX_33 hx, FX_34 hx, FX_35 hx, FX_36 hx, FX_37 hx, FX_39 hx, FX_40 hx, i38, g7, fl40, i37, g7', s1]
        · rw [en]
          refine ⟨g1, g2, g3, g4, g5, fun i x hx => ?_, ?_, g8, g9, g10, g11⟩
          · have hx : (a_no (c_ak s k) ++ [u])[i]? = some x := hx
            rw [mI_ne (by omega), mI_sI]
            rcases app_get hx with ⟨q1, q2⟩ | ⟨q1, q2⟩
            · rw [if_neg (by omega)]
              exact g6 i x q2
            · rw [if_pos ⟨rfl, rfl, by omega⟩, q2]
          · rw [mI_sI, if_pos ⟨rfl, rfl, rfl⟩]; rfl
        · rw [en]
          refine ⟨o1, o2, hp, o4, ?_, o6, o7⟩
          show (a_no (c_ak s k) ++ [u]).length = min (a_nt (c_ak s k) + 1) 40
          rw [List.length_append, o5]
          simp only [List.length_cons, List.length_nil]
          omega
      · have F : fs (QN k) m (sI (sI m 39 0 k 1) 38 0 k (nI (a_nt (c_ak s k) + 1))) := fsI F1 (Or.inl ⟨by decide, by decide, by decide, rfl⟩)
        have en : ntA (a_th_ (c_ak s k) true) u = a_nt_ (a_th_ (c_ak s k) true) (a_nt (c_ak s k) + 1) := by
          unfold ntA
          rw [if_neg (show ¬ a_nt (a_th_ (c_ak s k) true) < 40 from hlt)]
          rfl
        refine ⟨_, fun r hr => ?_, RR_ask0 h F rfl rfl ?_ ?_ (by rw [en]; rfl) (by rw [en]; rfl), fs_le F QN_W⟩
        · rw [← hr]
          simp only [s123_129, s123_130, s123_133, s123_134, s123_135b0, s123_135b1, s123_136, s123_137, s123_140, s123_141, s123_142, s123_143, s123_146, s123_147, s123_148, s123_151, s123_152, s123_155, s123_156, s123_157, s123_158, s123_161, s123_162, s123_163, s123_166, s123_167, s123_170, s123_171, s123_172, s123_174, eq_self, ixk_some, bd_some, nl_n, nl_i, nl_r, Option.toList_some, Option.toList_none, List.cons_append, List.nil_append, mR_sI, mN_sI, FX_2 hx, FX_3 hx, FX_4 hx, FX_5 hx, FX_6 hx, FX_7 hx, FX_8 hx, FX_9 hx, FX_10 hx, FX_11 hx, FX_12 hx, FX_13 hx, FX_15 hx, FX_19 hx, FX_20 hx, FX_21 hx, FX_22 hx, FX_23 hx, FX_24 hx, FX_25 hx, FX_26 hx, FX_27 hx, FX_28 hx, FX_29 hx, FX_31 hx, FX_32 hx, FX_33 hx, FX_34 hx, FX_35 hx, FX_36 hx, FX_37 hx, FX_39 hx, FX_40 hx, i39, i19, gnm1, i40, g9, h1', if_false, i41, g10, h3', i38, g7]
          rw [e40, if_pos (nI_le (by omega) (by omega))]
          simp only [s123_194, s123_195, s123_198, s123_199, s123_200, s123_201, s123_202, s123_203, eq_self, ixk_some, bd_some, nl_n, nl_i, nl_r, Option.toList_some, Option.toList_none, List.cons_append, List.nil_append, mR_sI, mN_sI, FX_2 hx, FX_3 hx, FX_4 hx, FX_5 hx, FX_6 hx, FX_7 hx, FX_8 hx, FX_9 hx, FX_10 hx, FX_11 hx, FX_12 hx, FX_13 hx, FX_15 hx, FX_19 hx, FX_20 hx, FX_21 hx, FX_22 hx, FX_23 hx, FX_24 hx, FX_25 hx, FX_26 hx, FX_27 hx, FX_28 hx, FX_29 hx, FX_31 hx, FX_32 hx, FX_33 hx, FX_34 hx, FX_35 hx, FX_36 hx, FX_37 hx, FX_39 hx, FX_40 hx, i38, g7, s1]
        · rw [en]
          refine ⟨g1, g2, g3, g4, g5, g6, ?_, g8, g9, g10, g11⟩
          rw [mI_sI, if_pos ⟨rfl, rfl, rfl⟩]; rfl
        · rw [en]
          refine ⟨o1, o2, hp, o4, ?_, o6, o7⟩
          show (a_no (c_ak s k)).length = min (a_nt (c_ak s k) + 1) 40
          rw [o5]
          omega
    · have h3' : a_hi (c_ak s k) < c_nm s u := i_nle.mp h3
      rw [no (fun z => h3 z.2)]
      refine ⟨_, fun r hr => ?_, R1, fs_le F1 QN_W⟩
      rw [← hr]
      simp only [s123_129, s123_130, s123_133, s123_134, s123_135b0, s123_135b1, s123_136, s123_137, s123_140, s123_141, s123_142, s123_143, s123_146, s123_147, s123_148, s123_151, s123_152, s123_155, s123_156, s123_157, s123_158, s123_161, s123_162, s123_163, eq_self, ixk_some, bd_some, nl_n, nl_i, nl_r, Option.toList_some, Option.toList_none, List.cons_append, List.nil_append, mR_sI, mN_sI, FX_2 hx, FX_3 hx, FX_4 hx, FX_5 hx, FX_6 hx, FX_7 hx, FX_8 hx, FX_9 hx, FX_10 hx, FX_11 hx, FX_12 hx, FX_13 hx, FX_15 hx, FX_19 hx, FX_20 hx, FX_21 hx, FX_22 hx, FX_23 hx, FX_24 hx, FX_25 hx, FX_26 hx, FX_27 hx, FX_28 hx, FX_29 hx, FX_31 hx, FX_32 hx, FX_33 hx, FX_34 hx, FX_35 hx, FX_36 hx, FX_37 hx, FX_39 hx, FX_40 hx, i39, i19, gnm1, i40, g9, h1', if_false, i41, g10, h3', if_true]
  · have h1' : c_nm s u < a_lo (c_ak s k) := i_nle.mp h1
    rw [no (fun z => h1 z.1)]
    refine ⟨_, fun r hr => ?_, R1, fs_le F1 QN_W⟩
    rw [← hr]
    simp only [s123_129, s123_130, s123_133, s123_134, s123_135b0, s123_135b1, s123_136, s123_137, s123_140, s123_141, s123_142, s123_143, s123_146, s123_147, s123_148, eq_self, ixk_some, bd_some, nl_n, nl_i, nl_r, Option.toList_some, Option.toList_none, List.cons_append, List.nil_append, mR_sI, mN_sI, FX_2 hx, FX_3 hx, FX_4 hx, FX_5 hx, FX_6 hx, FX_7 hx, FX_8 hx, FX_9 hx, FX_10 hx, FX_11 hx, FX_12 hx, FX_13 hx, FX_15 hx, FX_19 hx, FX_20 hx, FX_21 hx, FX_22 hx, FX_23 hx, FX_24 hx, FX_25 hx, FX_26 hx, FX_27 hx, FX_28 hx, FX_29 hx, FX_31 hx, FX_32 hx, FX_33 hx, FX_34 hx, FX_35 hx, FX_36 hx, FX_37 hx, FX_39 hx, FX_40 hx, i39, i19, gnm1, i40, g9, h1', if_true]
theorem rr_along {s : ST} {m : MM} {k u : Nat} {a3 : Option AV} (h : RR s m) (hc : CLs s) (hk : k < c_na s) (hu : u < c_n s) (hp : a_nt (c_ak s k) + 1 < 2 ^ 30) (hd : a_dn (c_ak s k) = false) (hl : (c_ms s).length < 192) :
    ∃ m', go 123 129 [some (vr 8 (some 0)), some (vi (nI k)), some (vi (nI u)), a3] [] m = some (none, m') ∧ RR (match (alongR s k u (a_th_ (c_ak s k) true)).2 with | some r => snda (alongR s k u (a_th_ (c_ak s k) true)).1 k r | none => (alongR s k u (a_th_ (c_ak s k) true)).1) m' ∧ fs QW m m' := by
  obtain ⟨m1, k1, R1, F1⟩ := rr_note (a3 := a3) h hk hu hp hd
  have h160 := h.2.2.2.1.1
  have h32 := h.1.2.2.1
  have n1 : go 113 0 [some (vr 8 (some 0)), some (vi (nI u)), some (vi 0)] [] m1 = some (some (vi (enc (lnk s u 0 1))), m1) := rr_right (s := c_ak_ s (up1 (c_ak s) k (noA s (a_th_ (c_ak s k) true) u))) (l := 0) R1.1 hu (by decide)
  obtain ⟨q1, q2, q3, q4, q5⟩ := noA_f s (a_th_ (c_ak s k) true) u
  have qd : a_dn (noA s (a_th_ (c_ak s k) true) u) = false := by
    unfold noA ntA
    by_cases y : a_lo (a_th_ (c_ak s k) true) ≤ c_nm s u ∧ c_nm s u ≤ a_hi (a_th_ (c_ak s k) true)
    · rw [if_pos y]
      by_cases y2 : a_nt (a_th_ (c_ak s k) true) < 40
      · rw [if_pos y2]; exact hd
      · rw [if_neg y2]; exact hd
    · rw [if_neg y]; exact hd
  have A1 := (RR_askget R1 hk).1
  generalize hb : noA s (a_th_ (c_ak s k) true) u = b at *
  have eA : c_ak (c_ak_ s (up1 (c_ak s) k b)) k = b := up1_get _ _ _
  obtain ⟨g1, g2, g3, g4, g5, g6, g7, g8, g9, g10, g11⟩ := A1
  have hx := R1.1.1
  have hn := R1.1.2.1
  have i38 := ixN (FN_38 hn) (i := k) (by omega) (by decide)
  have i41 := ixN (FN_41 hn) (i := k) (by omega) (by decide)
  have i32 := ixN (FN_32 hn) (i := k) (by omega) (by decide)
  have g10 : mI m1 41 0 k = a_hi (c_ak s k) := by rw [g10, q3]; rfl
  obtain ⟨m2, f1, f2, f3⟩ := rr_ends (x := nI (a_nt b)) R1 hk (by rw [eA]; exact qd)
  rw [endA_up] at f2
  have fin : go 123 254 [some (vr 8 (some 0)), some (vi (nI k)), some (vi (nI u)), some (vi (enc (lnk s u 0 1)))] [] m1 = some (none, m2) := by
    simp only [s123_254, s123_255, s123_256, s123_257, s123_260, s123_261, s123_262, s123_265, eq_self, ixk_some, bd_some, nl_n, nl_i, nl_r, Option.toList_some, Option.toList_none, List.cons_append, List.nil_append, FX_2 hx, FX_3 hx, FX_4 hx, FX_5 hx, FX_6 hx, FX_7 hx, FX_8 hx, FX_9 hx, FX_10 hx, FX_11 hx, FX_12 hx, FX_13 hx, FX_15 hx, FX_19 hx, FX_20 hx, FX_21 hx, FX_22 hx, FX_23 hx, FX_24 hx, FX_25 hx, FX_26 hx, FX_27 hx, FX_28 hx, FX_29 hx, FX_31 hx, FX_32 hx, FX_33 hx, FX_34 hx, FX_35 hx, FX_36 hx, FX_37 hx, FX_39 hx, FX_40 hx, i38, g7, f1]
  unfold alongR
  rw [hb]
  cases hl0 : lnk s u 0 1 with
  | none => 
    rw [hl0] at fin n1
    rw [show enc none = -4 from rfl] at fin n1
    refine ⟨m2, k1 _ ?_, f2, fs_tr F1 f3⟩
    simp only [s123_204, s123_205, s123_206, s123_207, s123_210i, s123_210r, s123_210n, s123_211, s123_212, s123_214, eq_self, ixk_some, bd_some, nl_n, nl_i, nl_r, Option.toList_some, Option.toList_none, List.cons_append, List.nil_append, n1, if_true]
    exact fin
  | some r => 
    have hr : r < c_n s := cls_lnk hc hu hl0
    rw [hl0] at fin n1
    rw [show enc (some r) = nI r from rfl] at fin n1
    have gr : mI m1 19 0 r = c_nm s r := (R1.1.2.2.2.2.2 r hr).1
    have ir := ixN (FN_19 hn) (i := r) (by omega) (by decide)
    have base : ∀ z, go 123 229 [some (vr 8 (some 0)), some (vi (nI k)), some (vi (nI u)), some (vi (nI r))] [vi (a_hi (c_ak s k)), vi (c_nm s r)] m1 = z → go 123 204 [some (vr 8 (some 0)), some (vi (nI k)), some (vi (nI u)), a3] [] m1 = z := by
      intro z hz
      rw [← hz]
      simp only [s123_204, s123_205, s123_206, s123_207, s123_210i, s123_210r, s123_210n, s123_211, s123_212, s123_214, eq_self, ixk_some, bd_some, nl_n, nl_i, nl_r, Option.toList_some, Option.toList_none, List.cons_append, List.nil_append, n1, if_neg (nI_n4 (p := r) (by omega))]
      simp only [s123_217, s123_218, s123_221, s123_222, s123_223, s123_224, s123_227, s123_228, eq_self, ixk_some, bd_some, nl_n, nl_i, nl_r, Option.toList_some, Option.toList_none, List.cons_append, List.nil_append, FX_2 hx, FX_3 hx, FX_4 hx, FX_5 hx, FX_6 hx, FX_7 hx, FX_8 hx, FX_9 hx, FX_10 hx, FX_11 hx, FX_12 hx, FX_13 hx, FX_15 hx, FX_19 hx, FX_20 hx, FX_21 hx, FX_22 hx, FX_23 hx, FX_24 hx, FX_25 hx, FX_26 hx, FX_27 hx, FX_28 hx, FX_29 hx, FX_31 hx, FX_32 hx, FX_33 hx, FX_34 hx, FX_35 hx, FX_36 hx, FX_37 hx, FX_39 hx, FX_40 hx, ir, gr, i41, g10]
    have eh : a_hi (a_th_ (c_ak s k) true) = a_hi (c_ak s k) := rfl
    by_cases h5 : c_nm s r ≤ a_hi (c_ak s k)
    · have h5' : ¬ a_hi (c_ak s k) < c_nm s r := i_nlt.mpr h5
      simp only [eh, if_pos h5]
      obtain ⟨m3, b1, b2, b3⟩ := rr_sendA (p := r) R1 hk hl
      rw [eA] at b1
      refine ⟨m3, k1 _ (base _ ?_), b2, fs_tr F1 b3⟩
      simp only [s123_229, s123_232, s123_233, s123_234, s123_237, s123_238, s123_239, s123_240, s123_241, s123_243, s123_244, s123_246, s123_248, s123_251, s123_265, eq_self, ixk_some, bd_some, nl_n, nl_i, nl_r, Option.toList_some, Option.toList_none, List.cons_append, List.nil_append, h5', if_false, FX_2 hx, FX_3 hx, FX_4 hx, FX_5 hx, FX_6 hx, FX_7 hx, FX_8 hx, FX_9 hx, FX_10 hx, FX_11 hx, FX_12 hx, FX_13 hx, FX_15 hx, FX_19 hx, FX_20 hx, FX_21 hx, FX_22 hx, FX_23 hx, FX_24 hx, FX_25 hx, FX_26 hx, FX_27 hx, FX_28 hx, FX_29 hx, FX_31 hx, FX_32 hx, FX_33 hx, FX_34 hx, FX_35 hx, FX_36 hx, FX_37 hx, FX_39 hx, FX_40 hx, i32, g1, b1]
    · have h5' : a_hi (c_ak s k) < c_nm s r := i_nle.mp h5
      simp only [eh, if_neg h5]
      refine ⟨m2, k1 _ (base _ ?_), f2, fs_tr F1 f3⟩
      simp only [s123_229, eq_self, ixk_some, bd_some, nl_n, nl_i, nl_r, Option.toList_some, Option.toList_none, List.cons_append, List.nil_append, h5', if_true]
      exact fin
