/-! the class: Line.takeAway -/
def tkM (m : MM) : Nat → Nat → MM
  | 0, _ => m
  | d + 1, j => tkM (sR m 11 0 j (mR m 11 0 (j + 1))) d (j + 1)
theorem tkM_get : ∀ d j (m : MM), (∀ r n k, mR (tkM m d j) r n k = if r = 11 ∧ n = 0 ∧ j ≤ k ∧ k < j + d then mR m 11 0 (k + 1) else mR m r n k) ∧ mI (tkM m d j) = mI m ∧ mL (tkM m d j) = mL m ∧ mC (tkM m d j) = mC m ∧ mN (tkM m d j) = mN m ∧ mT (tkM m d j) = mT m ∧ mS (tkM m d j) = mS m
  | 0, j, m => ⟨fun r n k => by rw [if_neg (by omega)]; rfl, rfl, rfl, rfl, rfl, rfl, rfl⟩
  | d + 1, j, m => by
    obtain ⟨g1, g2, g3, g4, g5, g6, g7⟩ := tkM_get d (j + 1) (sR m 11 0 j (mR m 11 0 (j + 1)))
    refine ⟨fun r n k => ?_, g2, g3, g4, g5, g6, g7⟩
    show mR (tkM _ d (j + 1)) r n k = _
    rw [g1]
    simp only [mR_sR]
    by_cases h1 : r = 11 ∧ n = 0
    · obtain ⟨rfl, rfl⟩ := h1
      by_cases h2 : j + 1 ≤ k ∧ k < j + 1 + d
      · rw [if_pos ⟨rfl, rfl, h2⟩, if_neg (by omega), if_pos ⟨rfl, rfl, by omega⟩]
      · rw [if_neg (fun z => h2 z.2.2)]
        by_cases h3 : k = j
        · rw [if_pos ⟨rfl, rfl, h3⟩, if_pos ⟨rfl, rfl, by omega⟩, h3]
        · rw [if_neg (fun z => h3 z.2.2), if_neg (fun z => by omega)]
    · rw [if_neg (fun z => h1 ⟨z.1, z.2.1⟩), if_neg (fun z => h1 ⟨z.1, z.2.1⟩), if_neg (fun z => h1 ⟨z.1, z.2.1⟩)]
theorem tk_loop {i : Int32} {q : Nat × Option Nat} {len : Nat} (hl : len ≤ 192) (h0 : 0 < len) : ∀ d j (m : MM), j + d + 1 = len → mN m 11 0 = 192 → mR m 3 0 0 = some 0 → mI m 3 0 1 = nI len →
    go 13 14 [some (vr 3 (some 0)), some (vi i), some (.inr (.inr q)), some (vi (nI j))] [] m = go 13 44 [some (vr 3 (some 0)), some (vi i), some (.inr (.inr q)), some (vi (nI (len - 1)))] [] (tkM m d j) := by
  intro d
  induction d with
  | zero =>
    intro j m hj h1 h2 h3
    have e : nI len - 1 = nI (len - 1) := by rw [nI_k1, pk_sub (by omega)]
    have : j = len - 1 := by omega
    subst this
    rw [s13_14]
    simp only [s13_15, s13_16, s13_19, s13_20, s13_21, eq_self, ixk_some, bd_some, nl_n, nl_i, nl_r, Option.toList_some, Option.toList_none, List.cons_append, List.nil_append, h3, e]
    rw [if_pos (nI_le (by omega) (by omega))]
    rfl
  | succ d ih =>
    intro j m hj h1 h2 h3
    have e : nI len - 1 = nI (len - 1) := by rw [nI_k1, pk_sub (by omega)]
    have ix1 := ix_nI (i := j) (n := mN m 11 0) (by rw [h1]; omega) (by rw [h1]; decide)
    have ix2 := ix_nI (i := j + 1) (n := mN m 11 0) (by rw [h1]; omega) (by rw [h1]; decide)
    rw [s13_14]
    simp only [s13_15, s13_16, s13_19, s13_20, s13_21, s13_24, s13_25, s13_28, s13_29, s13_30, s13_33, s13_34, s13_35, s13_36, s13_37r, s13_37n, s13_38i, s13_38r, s13_38n, s13_41, eq_self, ixk_some, bd_some, nl_n, nl_i, nl_r, Option.toList_some, Option.toList_none, List.cons_append, List.nil_append, h2, h3, e, nI_1, ix1, ix2]
    rw [if_neg (nI_ge (by omega) (by omega))]
    exact ih (j + 1) _ (by omega) h1 h2 h3
theorem flt_erase {P : MSG → Bool} : ∀ (L : List MSG) (i : Nat) (g : MSG), L[i]? = some g → (L.filter P).length = ((L.eraseIdx i).filter P).length + if P g = true then 1 else 0
  | [], i, g, h => by simp at h
  | x :: L, 0, g, h => by
    have : x = g := by simpa using h
    subst this
    simp only [List.eraseIdx_cons_zero, List.filter_cons]
    split <;> simp
  | x :: L, i + 1, g, h => by
    have ih := flt_erase (P := P) L i g (by simpa using h)
    simp only [List.eraseIdx_cons_succ, List.filter_cons]
    by_cases hp : P x = true
    · simp only [hp, if_true, List.length_cons, ih]; omega
    · simp only [hp, if_false, Bool.false_eq_true, ih]
theorem chM_erase {s : ST} {i : Nat} {g : MSG} (h : (c_ms s)[i]? = some g) : chM s = chM (c_ms_ s ((c_ms s).eraseIdx i)) + if g_as g = none then 1 else 0 := by
  have := flt_erase (P := fun g => (g_as g).isNone) (c_ms s) i g h
  unfold chM
  rw [this]
  show _ = List.length (List.filter _ ((c_ms s).eraseIdx i)) + _
  cases g_as g <;> simp
theorem len_erase {s : ST} {i : Nat} (h : i < (c_ms s).length) : (c_ms (c_ms_ s ((c_ms s).eraseIdx i))).length = (c_ms s).length - 1 := by
  show ((c_ms s).eraseIdx i).length = _
  rw [List.length_eraseIdx, if_pos h]
theorem go_takeAway {s : ST} {m : MM} {i : Nat} {g : MSG} (hm : RCm s m) (hs : RCs s m) (hg : (c_ms s)[i]? = some g) : ∃ m' n, go 13 0 [some (vr 3 (some 0)), some (vi (nI i)), none, none] [] m = some (some (vr 4 (some n)), m') ∧ RC3 g m' n ∧ mR m' 3 0 3 = some n ∧ RCm (c_ms_ s ((c_ms s).eraseIdx i)) m' ∧ RCs (c_ms_ s ((c_ms s).eraseIdx i)) m' ∧ fr (fun r n => (r = 3 ∨ r = 11) ∧ n = 0) m m' := by
  have hi := (List.getElem?_eq_some_iff.mp hg).1
  obtain ⟨h, s1, s2, s3, s4, s5, s6, s7, s8⟩ := hs
  have hm' := hm
  obtain ⟨k1, k2, k3, k4, k5, k6, k7⟩ := hm'
  have hat : ∃ n, mR m 11 0 i = some n ∧ RC3 g m n ∧ go 9 0 [some (vr 3 (some 0)), some (vi (nI i))] [] m = some (some (vr 4 (some n)), m) := by
    rcases go_at (i := nI i) hm with ⟨j, g', n, e1, e2, e3, e4, e5, e6, e7⟩ | ⟨e1, _⟩
    · rw [nI_toInt (by omega)] at e3
      have : i = j := by omega
      subst this
      rw [hg] at e4
      cases e4
      exact ⟨n, e5, e6, e7⟩
    · rw [nI_toInt (by omega)] at e1
      omega
  obtain ⟨n, a1, a2, a3⟩ := hat
  have hce := chM_erase hg
  have hle := len_erase hi
  let m1 := tkM m ((c_ms s).length - 1 - i) i
  obtain ⟨t1, t2, t3, t4, t5, t6, t7⟩ := tkM_get ((c_ms s).length - 1 - i) i m
  let m5 := sI (sR (sR (sI m1 3 0 1 (nI ((c_ms s).length - 1))) 11 0 ((c_ms s).length - 1) (mR m 3 0 3)) 3 0 3 (some n)) 3 0 2 (nI (chM (c_ms_ s ((c_ms s).eraseIdx i))))
  have e33 : mR m5 3 0 3 = some n := rfl
  have eC : mC m5 4 = mC m 4 := by show mC m1 4 = _; rw [t4]
  have e11 : ∀ k, mR m5 11 0 k = if k = (c_ms s).length - 1 then mR m 3 0 3 else mR m 11 0 (if i ≤ k ∧ k < (c_ms s).length - 1 then k + 1 else k) := by
    intro k
    show mR (sR (sI m1 3 0 1 _) 11 0 ((c_ms s).length - 1) (mR m 3 0 3)) 11 0 k = _
    rw [mR_sR]
    by_cases e : k = (c_ms s).length - 1
    · rw [if_pos ⟨rfl, rfl, e⟩, if_pos e]
    · rw [if_neg (fun z => e z.2.2), if_neg e]
      show mR m1 11 0 k = _
      rw [t1]
      by_cases e2 : i ≤ k ∧ k < (c_ms s).length - 1
      · rw [if_pos ⟨rfl, rfl, by omega⟩, if_pos e2]
      · rw [if_neg (fun z => e2 (by omega)), if_neg e2]
  have ff : fr (fun r n => (r = 3 ∨ r = 11) ∧ n = 0) m m5 := by
    have f1 : fr (fun r n => (r = 3 ∨ r = 11) ∧ n = 0) m m1 := ⟨fun r n k z => ⟨by rw [t2], by rw [t3], by rw [t1, if_neg (fun e => z ⟨Or.inr e.1, e.2.1⟩)]⟩, fun r => by rw [t4], fun r n => by rw [t5], t6, t7⟩
    exact fr_tr f1 (fr_tr (fr_sI _ _ ⟨Or.inl rfl, rfl⟩) (fr_tr (fr_sR _ _ ⟨Or.inr rfl, rfl⟩) (fr_tr (fr_sR _ _ ⟨Or.inl rfl, rfl⟩) (fr_sI _ _ ⟨Or.inl rfl, rfl⟩))))
  refine ⟨m5, n, ?_, RC3_fg a2 (fg_fr ff) (by omega), e33, ⟨?_, ?_, ?_, ?_, ?_, rfl, ?_⟩, ?_, ff⟩
  · have ixl := ix_nI (i := (c_ms s).length - 1) (n := mN m 11 0) (by rw [k3]; omega) (by rw [k3]; decide)
    have el : nI (c_ms s).length - 1 = nI ((c_ms s).length - 1) := by rw [nI_k1, pk_sub (by omega)]
    have lp := tk_loop (i := nI i) (q := (4, some n)) (len := (c_ms s).length) (by omega) (by omega) ((c_ms s).length - 1 - i) i m (by omega) k3 k2 k4
    have q1 : mI m1 3 0 1 = nI (c_ms s).length := by rw [t2]; exact k4
    have q2 : mI m1 3 0 2 = nI (chM s) := by rw [t2]; exact k6
    have q3 : mR m1 3 0 0 = some 0 := by rw [t1, if_neg (by omega)]; exact k2
    have q4 : mR m1 3 0 3 = mR m 3 0 3 := by rw [t1, if_neg (by omega)]
    have q5 : mN m1 11 0 = mN m 11 0 := by rw [t5]
    have q6 : mR m1 4 n 2 = g_as g := by rw [t1, if_neg (by omega)]; exact a2.2.2.1
    have u1 : ∀ v, mR (sI m1 3 0 1 v) 3 0 0 = some 0 := fun v => q3
    have u2 : ∀ v, mN (sI m1 3 0 1 v) 11 0 = mN m 11 0 := fun v => q5
    have u3 : ∀ v, mR (sI m1 3 0 1 v) 3 0 3 = mR m 3 0 3 := fun v => q4
    have u4 : ∀ v, mI (sI m1 3 0 1 v) 3 0 1 = v := fun v => rfl
    have u5 : ∀ v k o p, mI (sR (sR (sI m1 3 0 1 v) 11 0 k o) 3 0 3 p) 3 0 2 = nI (chM s) := fun v k o p => q2
    have u6 : ∀ v k o p, mR (sR (sR (sI m1 3 0 1 v) 11 0 k o) 3 0 3 p) 4 n 2 = g_as g := fun v k o p => q6
    simp only [s13_0, s13_1, s13_2, s13_5i, s13_5r, s13_5n, s13_6, s13_7n, s13_7s, s13_12, s13_13i, s13_13r, s13_13n, eq_self, ixk_some, bd_some, nl_n, nl_i, nl_r, Option.toList_some, Option.toList_none, List.cons_append, List.nil_append, a3]
    rw [lp]
    show go 13 44 _ [] m1 = _
    simp only [s13_0, s13_1, s13_2, s13_5i, s13_5r, s13_5n, s13_6, s13_7n, s13_7s, s13_10, s13_11, s13_12, s13_13i, s13_13r, s13_13n, s13_15, s13_16, s13_19, s13_20, s13_21, s13_24, s13_25, s13_28, s13_29, s13_30, s13_33, s13_34, s13_35, s13_36, s13_37r, s13_37n, s13_38i, s13_38r, s13_38n, s13_41, s13_44, s13_45, s13_46, s13_49, s13_50, s13_51, s13_54, s13_55, s13_58, s13_59, s13_62, s13_63, s13_66r, s13_66n, s13_67, s13_68, s13_69r, s13_69n, s13_72, s13_73, s13_74, s13_77, s13_78, s13_84, s13_85, s13_88, s13_89, s13_90, s13_93, s13_94, eq_self, ixk_some, bd_some, nl_n, nl_i, nl_r, Option.toList_some, Option.toList_none, List.cons_append, List.nil_append, q1, el, u1, u2, u3, u4, u5, u6, ixl]
    cases hq : g_as g with
    | none =>
      simp only [hq, if_true] at hce
      simp only [s13_0, s13_1, s13_2, s13_5i, s13_5r, s13_5n, s13_6, s13_7n, s13_7s, s13_10, s13_11, s13_12, s13_13i, s13_13r, s13_13n, s13_15, s13_16, s13_19, s13_20, s13_21, s13_24, s13_25, s13_28, s13_29, s13_30, s13_33, s13_34, s13_35, s13_36, s13_37r, s13_37n, s13_38i, s13_38r, s13_38n, s13_41, s13_44, s13_45, s13_46, s13_49, s13_50, s13_51, s13_54, s13_55, s13_58, s13_59, s13_62, s13_63, s13_66r, s13_66n, s13_67, s13_68, s13_69r, s13_69n, s13_72, s13_73, s13_74, s13_77, s13_78, s13_81n, s13_81s, s13_84, s13_85, s13_88, s13_89, s13_90, s13_93, s13_94, eq_self, ixk_some, bd_some, nl_n, nl_i, nl_r, Option.toList_some, Option.toList_none, List.cons_append, List.nil_append, nI_k1, hce, pk_sub (Nat.le_add_left 1 _), Nat.add_sub_cancel]
      rfl
    | some k =>
      simp only [hq, reduceCtorEq, if_false, Nat.add_zero] at hce
      simp only [s13_0, s13_1, s13_2, s13_5i, s13_5r, s13_5n, s13_6, s13_7n, s13_7s, s13_10, s13_11, s13_12, s13_13i, s13_13r, s13_13n, s13_15, s13_16, s13_19, s13_20, s13_21, s13_24, s13_25, s13_28, s13_29, s13_30, s13_33, s13_34, s13_35, s13_36, s13_37r, s13_37n, s13_38i, s13_38r, s13_38n, s13_41, s13_44, s13_45, s13_46, s13_49, s13_50, s13_51, s13_54, s13_55, s13_58, s13_59, s13_62, s13_63, s13_66r, s13_66n, s13_67, s13_68, s13_69r, s13_69n, s13_72, s13_73, s13_74, s13_77, s13_78, s13_81n, s13_81s, s13_84, s13_85, s13_88, s13_89, s13_90, s13_93, s13_94, eq_self, ixk_some, bd_some, nl_n, nl_i, nl_r, Option.toList_some, Option.toList_none, List.cons_append, List.nil_append, hce, Int32.sub_zero]
      rfl
  · show mR m1 7 0 6 = _
    rw [t1, if_neg (by omega)]; exact k1
  · show mR m1 3 0 0 = _
    rw [t1, if_neg (by omega)]; exact k2
  · show mN m1 11 0 = _
    rw [t5]; exact k3
  · rw [hle]; rfl
  · rw [hle]; omega
  · intro j g' hj
    have hj : ((c_ms s).eraseIdx i)[j]? = some g' := hj
    have hjl := (List.getElem?_eq_some_iff.mp hj).1
    rw [List.length_eraseIdx, if_pos hi] at hjl
    rw [List.getElem?_eraseIdx] at hj
    rw [e11, if_neg (by omega)]
    by_cases hji : j < i
    · rw [if_pos hji] at hj
      rw [if_neg (by omega)]
      obtain ⟨n', c1, c2⟩ := k7 j g' hj
      exact ⟨n', c1, RC3_fg c2 (fg_fr ff) (by omega)⟩
    · rw [if_neg hji] at hj
      rw [if_pos (by omega)]
      obtain ⟨n', c1, c2⟩ := k7 (j + 1) g' hj
      exact ⟨n', c1, RC3_fg c2 (fg_fr ff) (by omega)⟩
  · have hn4 : n < mC m 4 := by
      obtain ⟨n2, b1, b2, b3⟩ := s3 i (by omega)
      rw [a1] at b1
      cases b1
      exact b2
    have hnl : mR m 3 0 3 ≠ some n := by
      obtain ⟨n2, b1, b2, b3⟩ := s3 i (by omega)
      rw [a1] at b1
      cases b1
      exact b3
    refine ⟨if mR m 3 0 3 = none then h - 1 else h, ?_, ?_, ?_, ?_, ?_, ?_, ?_, ?_⟩
    · rw [hle]
      split <;> omega
    · split <;> omega
    · intro k hk
      rw [e11, e33, eC]
      by_cases e : k = (c_ms s).length - 1
      · rw [if_pos e]
        cases hlt : mR m 3 0 3 with
        | none =>
          have := s6 hlt
          rw [if_pos hlt] at hk
          omega
        | some t => exact ⟨t, rfl, s8 t hlt, fun z => hnl (by rw [hlt]; exact z.symm)⟩
      · rw [if_neg e]
        have hkh : k < h := by
          split at hk <;> omega
        obtain ⟨n2, b1, b2, b3⟩ := s3 (if i ≤ k ∧ k < (c_ms s).length - 1 then k + 1 else k) (by split <;> omega)
        refine ⟨n2, b1, b2, fun z => ?_⟩
        cases z
        have := s5 _ i n (by split <;> omega) (by omega) b1 a1
        split at this
        · omega
        · rename_i hq
          by_cases hlt : mR m 3 0 3 = none
          · have := s6 hlt
            rw [if_pos hlt] at hk
            omega
          · omega
    · intro k hk hk2
      have hkl : (c_ms s).length - 1 ≤ k := by
        split at hk <;> omega
      rw [e11]
      by_cases e : k = (c_ms s).length - 1
      · rw [if_pos e]
        by_cases hlt : mR m 3 0 3 = none
        · exact hlt
        · rw [if_neg hlt] at hk
          omega
      · rw [if_neg e, if_neg (by omega)]
        refine s4 k ?_ hk2
        by_cases hlt : mR m 3 0 3 = none
        · have := s6 hlt
          omega
        · rw [if_neg hlt] at hk; exact hk
    · intro a b n2 ha hb
      rw [e11, e11]
      have hah : a < h := by split at ha <;> omega
      have hbh : b < h := by split at hb <;> omega
      by_cases ea : a = (c_ms s).length - 1
      · by_cases eb : b = (c_ms s).length - 1
        · omega
        · rw [if_pos ea, if_neg eb]
          intro z1 z2
          obtain ⟨n3, b1, b2, b3⟩ := s3 (if i ≤ b ∧ b < (c_ms s).length - 1 then b + 1 else b) (by split <;> omega)
          rw [z2] at b1
          cases b1
          exact absurd z1 b3
      · by_cases eb : b = (c_ms s).length - 1
        · rw [if_neg ea, if_pos eb]
          intro z1 z2
          obtain ⟨n3, b1, b2, b3⟩ := s3 (if i ≤ a ∧ a < (c_ms s).length - 1 then a + 1 else a) (by split <;> omega)
          rw [z1] at b1
          cases b1
          exact absurd z2 b3
        · rw [if_neg ea, if_neg eb]
          intro z1 z2
          have := s5 _ _ n2 (by split <;> omega) (by split <;> omega) z1 z2
          split at this <;> split at this <;> omega
    · rw [e33]; intro z; cases z
    · rw [e33, eC, s7]
      by_cases hlt : mR m 3 0 3 = none
      · have := s6 hlt
        simp only [hlt, if_true, reduceCtorEq, if_false]; omega
      · simp only [hlt, reduceCtorEq, if_false]
    · intro n2 z
      rw [e33] at z
      cases z
      rw [eC]; exact hn4
