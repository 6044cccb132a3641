/-! the reference: gone, unpack, remove -/
def gn1 (m : MM) (j : Nat) : MM := sI (sI (sI (sI (sI (sI (sI m 43 0 j (mI m 43 0 (j + 1))) 44 0 j (mI m 44 0 (j + 1))) 45 0 j (mI m 45 0 (j + 1))) 46 0 j (mI m 46 0 (j + 1))) 47 0 j (mI m 47 0 (j + 1))) 48 0 j (mI m 48 0 (j + 1))) 49 0 j (mI m 49 0 (j + 1))
def gnM (m : MM) : Nat → Nat → MM
  | 0, _ => m
  | d + 1, j => gnM (gn1 m j) d (j + 1)
theorem gn1_get (m : MM) (j r n k : Nat) : mI (gn1 m j) r n k = if 43 ≤ r ∧ r ≤ 49 ∧ n = 0 ∧ k = j then mI m r 0 (j + 1) else mI m r n k := by
  unfold gn1
  simp only [mI_sI]
  by_cases h : 43 ≤ r ∧ r ≤ 49 ∧ n = 0 ∧ k = j
  · rw [if_pos h]
    obtain ⟨h1, h2, h3, h4⟩ := h
    have : r = 43 ∨ r = 44 ∨ r = 45 ∨ r = 46 ∨ r = 47 ∨ r = 48 ∨ r = 49 := by omega
    rcases this with e | e | e | e | e | e | e <;> subst e <;> simp [h3, h4]
  · rw [if_neg h]
    rw [if_neg (by omega), if_neg (by omega), if_neg (by omega), if_neg (by omega), if_neg (by omega), if_neg (by omega), if_neg (by omega)]
theorem gn1_fs (m : MM) (j : Nat) : fs (fun r _ => 43 ≤ r ∧ r ≤ 49) m (gn1 m j) := by
  unfold gn1
  refine fsI (fsI (fsI (fsI (fsI (fsI (fsI (fs_rf _ m) ?_) ?_) ?_) ?_) ?_) ?_) ?_
  all_goals exact ⟨by decide, by decide⟩
theorem gnM_get : ∀ d j (m : MM), (∀ r k, 43 ≤ r → r ≤ 49 → mI (gnM m d j) r 0 k = if j ≤ k ∧ k < j + d then mI m r 0 (k + 1) else mI m r 0 k) ∧ fs (fun r _ => 43 ≤ r ∧ r ≤ 49) m (gnM m d j)
  | 0, j, m => ⟨fun r k _ _ => by rw [if_neg (by omega)]; rfl, fs_rf _ _⟩
  | d + 1, j, m => by
    obtain ⟨h1, h2⟩ := gnM_get d (j + 1) (gn1 m j)
    refine ⟨fun r k a b => ?_, fs_tr (gn1_fs m j) h2⟩
    show mI (gnM (gn1 m j) d (j + 1)) r 0 k = _
    rw [h1 r k a b, gn1_get, gn1_get]
    by_cases c : j + 1 ≤ k ∧ k < j + 1 + d
    · rw [if_pos c, if_neg (by omega), if_pos (by omega)]
    · rw [if_neg c]
      by_cases c2 : k = j
      · rw [if_pos ⟨a, b, rfl, c2⟩, if_pos (by omega), c2]
      · rw [if_neg (by omega), if_neg (by omega)]
theorem gone_loop {i : Int32} {len : Nat} (hl : len ≤ 192) : ∀ d j (m : MM), j + d + 1 = len → FX m → FN m → mI m 8 0 30 = nI len →
    go 120 2 [some (vr 8 (some 0)), some (vi i), some (vi (nI j))] [] m = go 120 116 [some (vr 8 (some 0)), some (vi i), some (vi (nI (len - 1)))] [] (gnM m d j) := by
  intro d
  induction d with
  | zero => 
    intro j m hj hx hn h30
    have s1 : nI j + 1 = nI (j + 1) := nI_1 j
    rw [s120_2]
    simp only [s120_3, s120_4, s120_5, s120_6, s120_9, eq_self, ixk_some, bd_some, nl_n, nl_i, nl_r, Option.toList_some, Option.toList_none, List.cons_append, List.nil_append, h30, s1]
    rw [if_pos (nI_le (by omega) (by omega)), show len - 1 = j by omega]
    rfl
  | succ d ih => 
    intro j m hj hx hn h30
    have s1 : nI j + 1 = nI (j + 1) := nI_1 j
    have a43 := ixN (FN_43 hn) (i := j) (by omega) (by decide)
    have a44 := ixN (FN_44 hn) (i := j) (by omega) (by decide)
    have a45 := ixN (FN_45 hn) (i := j) (by omega) (by decide)
    have a46 := ixN (FN_46 hn) (i := j) (by omega) (by decide)
    have a47 := ixN (FN_47 hn) (i := j) (by omega) (by decide)
    have a48 := ixN (FN_48 hn) (i := j) (by omega) (by decide)
    have a49 := ixN (FN_49 hn) (i := j) (by omega) (by decide)
    have b43 := ixN (FN_43 hn) (i := j + 1) (by omega) (by decide)
    have b44 := ixN (FN_44 hn) (i := j + 1) (by omega) (by decide)
    have b45 := ixN (FN_45 hn) (i := j + 1) (by omega) (by decide)
    have b46 := ixN (FN_46 hn) (i := j + 1) (by omega) (by decide)
    have b47 := ixN (FN_47 hn) (i := j + 1) (by omega) (by decide)
    have b48 := ixN (FN_48 hn) (i := j + 1) (by omega) (by decide)
    have b49 := ixN (FN_49 hn) (i := j + 1) (by omega) (by decide)
    have F := gn1_fs m j
    have e30 : mI (gn1 m j) 8 0 30 = nI len := by rw [gn1_get, if_neg (by omega)]; exact h30
    have := ih (j + 1) (gn1 m j) (by omega) (FX_fs hx F) (FN_fs hn F) e30
    rw [s120_2]
    simp only [s120_3, s120_4, s120_5, s120_6, s120_9, eq_self, ixk_some, bd_some, nl_n, nl_i, nl_r, Option.toList_some, Option.toList_none, List.cons_append, List.nil_append, h30, s1]
    rw [if_neg (nI_ge (by omega) (by omega))]
    simp only [s120_0, s120_1i, s120_1r, s120_1n, s120_3, s120_4, s120_5, s120_6, s120_9, s120_12, s120_13, s120_16, s120_17, s120_18, s120_21, s120_22, s120_23, s120_24, s120_25, s120_26, s120_27, s120_30, s120_31, s120_32, s120_35, s120_36, s120_37, s120_38, s120_39, s120_40, s120_41, s120_44, s120_45, s120_46, s120_49, s120_50, s120_51, s120_52, s120_53, s120_54, s120_55, s120_58, s120_59, s120_60, s120_63, s120_64, s120_65, s120_66, s120_67, s120_68, s120_69, s120_72, s120_73, s120_74, s120_77, s120_78, s120_79, s120_80, s120_81, s120_82, s120_83, s120_86, s120_87, s120_88, s120_91, s120_92, s120_93, s120_94, s120_95, s120_96, s120_97, s120_100, s120_101, s120_102, s120_105, s120_106, s120_107, s120_108, s120_109, s120_110i, s120_110r, s120_110n, s120_113, s120_117, s120_118, s120_121, s120_122, s120_123, s120_126, eq_self, ixk_some, bd_some, nl_n, nl_i, nl_r, Option.toList_some, Option.toList_none, List.cons_append, List.nil_append, mR_sI, mN_sI, FX_2 hx, FX_3 hx, FX_4 hx, FX_5 hx, FX_6 hx, FX_7 hx, FX_8 hx, FX_9 hx, FX_10 hx, FX_11 hx, FX_12 hx, FX_13 hx, FX_15 hx, FX_19 hx, FX_20 hx, FX_21 hx, FX_22 hx, FX_23 hx, FX_24 hx, FX_25 hx, FX_26 hx, FX_27 hx, FX_28 hx, FX_29 hx, FX_31 hx, FX_32 hx, FX_33 hx, FX_34 hx, FX_35 hx, FX_36 hx, FX_37 hx, FX_39 hx, FX_40 hx, s1, a43, a44, a45, a46, a47, a48, a49, b43, b44, b45, b46, b47, b48, b49, mI_sI, Nat.reduceEqDiff, false_and, if_false]
    exact this
theorem RR3_eq {s s' : ST} {g : MSG} {m m' : MM} {i j : Nat} (h : RR3 s g m j) (e : c_cp s' = c_cp s) (hm : ∀ r, 43 ≤ r → r ≤ 49 → mI m' r 0 i = mI m r 0 j) : RR3 s' g m' i := by
  unfold RR3 at h ⊢
  rw [hm 43 (by decide) (by decide), hm 44 (by decide) (by decide), hm 45 (by decide) (by decide), hm 46 (by decide) (by decide), hm 47 (by decide) (by decide), hm 48 (by decide) (by decide), hm 49 (by decide) (by decide), e]
  exact h
theorem rr_gone {s : ST} {m : MM} {i : Nat} (h : RR s m) (hi : i < (c_ms s).length) : ∃ m', go 120 0 [some (vr 8 (some 0)), some (vi (nI i)), none] [] m = some (none, m') ∧ RR (c_ms_ s ((c_ms s).eraseIdx i)) m' ∧ fs (fun r k => (43 ≤ r ∧ r ≤ 49) ∨ (r = 8 ∧ k = 30)) m m' := by
  obtain ⟨k1, k2, k3⟩ := h.2.2.2.2.1
  obtain ⟨d, hd⟩ : ∃ d, i + d + 1 = (c_ms s).length := ⟨(c_ms s).length - i - 1, by omega⟩
  obtain ⟨g1, g2⟩ := gnM_get d i m
  have L := gone_loop (i := nI i) k2 d i m hd h.1.1 h.1.2.1 k1
  have e30 : mI (gnM m d i) 8 0 30 = nI (c_ms s).length := by rw [(g2.1 8 0 30 (by omega)).1]; exact k1
  have sp : nI (c_ms s).length - 1 = nI ((c_ms s).length - 1) := by
    have := nI_pred ((c_ms s).length - 1)
    rw [show (c_ms s).length - 1 + 1 = (c_ms s).length by omega] at this
    exact this
  have F : fs (fun r k => (43 ≤ r ∧ r ≤ 49) ∨ (r = 8 ∧ k = 30)) m (sI (gnM m d i) 8 0 30 (nI ((c_ms s).length - 1))) := fsI (fs_le g2 (fun r k z => Or.inl z)) (Or.inr ⟨rfl, rfl⟩)
  refine ⟨sI (gnM m d i) 8 0 30 (nI ((c_ms s).length - 1)), ?_, ?_, F⟩
  · have st : go 120 0 [some (vr 8 (some 0)), some (vi (nI i)), none] [] m = go 120 2 [some (vr 8 (some 0)), some (vi (nI i)), some (vi (nI i))] [] m := by
      simp only [s120_0, s120_1i, s120_1r, s120_1n, eq_self, ixk_some, bd_some, nl_n, nl_i, nl_r, Option.toList_some, Option.toList_none, List.cons_append, List.nil_append]
    rw [st, L]
    simp only [s120_116, s120_117, s120_118, s120_121, s120_122, s120_123, s120_126, eq_self, ixk_some, bd_some, nl_n, nl_i, nl_r, Option.toList_some, Option.toList_none, List.cons_append, List.nil_append, e30, sp]
  · obtain ⟨h1, h2, h3, h4, h5, h6, h7⟩ := h
    have hlen := len_erase hi
    refine ⟨RRp_fs h1 F (fun r k z => by omega), RRq_fs h2 F (fun r k z => by omega), RRk_fs h3 F (fun r k z => by omega), RRa_fs h4 F (fun r k z => by omega), ⟨by rw [hlen]; rfl, by rw [hlen]; omega, fun j g hg => ?_⟩, RRc_fs h6 F (fun r k z => by omega), RRb_fs h7 F (fun r k z => by omega) (fun g a _ => List.mem_of_mem_eraseIdx (show g ∈ (c_ms s).eraseIdx i from a)) rfl⟩
    have hg : ((c_ms s).eraseIdx i)[j]? = some g := hg
    rw [List.getElem?_eraseIdx] at hg
    by_cases hj : j < i
    · rw [if_pos hj] at hg
      refine RR3_eq (k3 j g hg) rfl (fun r a b => ?_)
      rw [mI_ne (by omega), g1 r j a b, if_neg (by omega)]
    · rw [if_neg hj] at hg
      have hj2 := (List.getElem?_eq_some_iff.mp hg).1
      refine RR3_eq (k3 (j + 1) g hg) rfl (fun r a b => ?_)
      rw [mI_ne (by omega), g1 r j a b, if_pos (by omega)]
theorem unp_loop {p : Nat} {B : PRS} (hp : p < 32) : ∀ (r : PRS) (i : Nat) (m : MM) (M : PRS), B.drop i = r → i ≤ B.length → FX m → FN m → BGo B m → RRl m p M → (inl1 M r).length ≤ 16 →
    ∃ m', go 129 2 [some (vr 8 (some 0)), some (vi (nI p)), some (vi (nI i))] [] m = some (none, m') ∧ RRl m' p (inl1 M r) ∧ fs (fun r k => QB p r k ∨ (r = 8 ∧ k = 38)) m m' := by
  intro r
  induction r with
  | nil => 
    intro i m M hi hle hx hn hB h hl
    have : B.length ≤ i := by
      have := congrArg List.length hi
      rw [List.length_drop] at this
      simp at this
      omega
    have h16 := hB.1
    have F : fs (fun r k => QB p r k ∨ (r = 8 ∧ k = 38)) m (sI m 8 0 38 0) := fsI (fs_rf _ m) (Or.inr ⟨rfl, rfl⟩)
    refine ⟨sI m 8 0 38 0, ?_, RRl_fs (Q := fun r k => r = 8 ∧ k = 38) h (fsI (fs_rf _ m) ⟨rfl, rfl⟩) (fun r k z => by omega), F⟩
    rw [s129_2]
    simp only [s129_3, s129_4, s129_7, eq_self, ixk_some, bd_some, nl_n, nl_i, nl_r, Option.toList_some, Option.toList_none, List.cons_append, List.nil_append, hB.2.1]
    rw [if_pos (nI_le (by omega) (by omega))]
    simp only [s129_33, s129_34, s129_35, s129_38, eq_self, ixk_some, bd_some, nl_n, nl_i, nl_r, Option.toList_some, Option.toList_none, List.cons_append, List.nil_append]
  | cons q r ih => 
    intro i m M hi hle hx hn hB h hl
    have hlt : i < B.length := by
      have := congrArg List.length hi
      rw [List.length_drop] at this
      simp at this
      omega
    have hq : B[i]? = some q := by
      have := congrArg List.head? hi
      rw [List.head?_drop] at this
      exact this
    have hr : B.drop (i + 1) = r := by
      rw [← List.drop_drop, hi]
      rfl
    have h16 := hB.1
    obtain ⟨b1, b2⟩ := hB.2.2 i q hq
    have i50 := ixN (FN_50 hn) (i := i) (by omega) (by decide)
    have i51 := ixN (FN_51 hn) (i := i) (by omega) (by decide)
    have s1 : nI i + 1 = nI (i + 1) := nI_1 i
    have hl2 : (inl1 (ins M q.1 q.2) r).length ≤ 16 := hl
    have hl1 := inl1_len r (ins M q.1 q.2)
    obtain ⟨m1, d1, d2, d3⟩ := rr_store (key := q.1) (v := q.2) hx hn hp h (by omega)
    obtain ⟨m2, e1, e2, e3⟩ := ih (i + 1) m1 (ins M q.1 q.2) hr (by omega) (FX_fs hx d3) (FN_fs hn d3) (BGo_fs hB d3 (fun r k z => by unfold QB at z; omega)) d2 hl2
    refine ⟨m2, ?_, e2, fs_tr (fs_le d3 (fun r k z => Or.inl z)) e3⟩
    rw [s129_2]
    simp only [s129_3, s129_4, s129_7, eq_self, ixk_some, bd_some, nl_n, nl_i, nl_r, Option.toList_some, Option.toList_none, List.cons_append, List.nil_append, hB.2.1]
    rw [if_neg (nI_ge hlt (by omega))]
    simp only [s129_10, s129_11, s129_12, s129_13, s129_16, s129_17, s129_18, s129_19, s129_22, s129_23, s129_24, s129_27i, s129_27r, s129_27n, s129_30, eq_self, ixk_some, bd_some, nl_n, nl_i, nl_r, Option.toList_some, Option.toList_none, List.cons_append, List.nil_append, FX_2 hx, FX_3 hx, FX_4 hx, FX_5 hx, FX_6 hx, FX_7 hx, FX_8 hx, FX_9 hx, FX_10 hx, FX_11 hx, FX_12 hx, FX_13 hx, FX_15 hx, FX_19 hx, FX_20 hx, FX_21 hx, FX_22 hx, FX_23 hx, FX_24 hx, FX_25 hx, FX_26 hx, FX_27 hx, FX_28 hx, FX_29 hx, FX_31 hx, FX_32 hx, FX_33 hx, FX_34 hx, FX_35 hx, FX_36 hx, FX_37 hx, FX_39 hx, FX_40 hx, i50, b1, i51, b2, d1, s1, e1]
/-- the bag's go to peer p -/
theorem rr_unpack {s : ST} {m : MM} {p : Nat} {B : PRS} (h : RR s m) (hp : p < c_n s) (hB : BGo B m) (rel : inl1 (c_pr s p) B = inl1 (c_pr s p) (c_bg s)) (hl : (inl1 (c_pr s p) (c_bg s)).length ≤ 16) (hno : ∀ g, g ∈ c_ms s → ¬ (g_so g = 6 ∨ g_so g = 10)) :
    ∃ m', go 129 0 [some (vr 8 (some 0)), some (vi (nI p)), none] [] m = some (none, m') ∧ RR (c_bg_ (c_pr_ s (up1 (c_pr s) p (inl1 (c_pr s p) (c_bg s)))) []) m' ∧ fs QW m m' := by
  have h32 := h.1.2.2.1
  obtain ⟨m1, a1, a2, a3⟩ := unp_loop (p := p) (B := B) (by omega) B 0 m (c_pr s p) (by simp) (Nat.zero_le _) h.1.1 h.1.2.1 hB (h.2.1 p hp) (by rw [rel]; exact hl)
  rw [rel] at a2
  have q : ∀ r k, (QB p r k ∨ (r = 8 ∧ k = 38)) → r = 28 ∨ r = 29 ∨ r = 30 ∨ (r = 8 ∧ k = 38) := fun r k z => by unfold QB at z; omega
  refine ⟨m1, ?_, ⟨RRp_fs h.1 a3 (fun r j z => by have := q r j z; omega), ?_, RRk_fs h.2.2.1 a3 (fun r j z => by have := q r j z; omega), RRa_fs h.2.2.2.1 a3 (fun r j z => by have := q r j z; omega), RRm_fs h.2.2.2.2.1 a3 (fun r j z => by have := q r j z; omega), RRc_fs h.2.2.2.2.2.1 a3 (fun r j z => by have := q r j z; omega), fun ⟨g, a, b⟩ => absurd b (hno g a)⟩, fs_le a3 (fun r k z => by have := q r k z; unfold QW; omega)⟩
  · rw [← a1]
    simp only [s129_0, s129_1i, s129_1r, s129_1n, eq_self, ixk_some, bd_some, nl_n, nl_i, nl_r, Option.toList_some, Option.toList_none, List.cons_append, List.nil_append]
    rfl
  · intro i hi
    have hi : i < c_n s := hi
    show RRl m1 i (up1 (c_pr s) p (inl1 (c_pr s p) (c_bg s)) i)
    by_cases e : i = p
    · subst e
      rw [up1_get]; exact a2
    · rw [show up1 (c_pr s) p (inl1 (c_pr s p) (c_bg s)) i = c_pr s i from if_neg e]
      obtain ⟨k1, k2, k3⟩ := h.2.1 i hi
      have n : ∀ r k, ¬ (QB p r k ∨ (r = 8 ∧ k = 38)) → mI m1 r 0 k = mI m r 0 k ∧ mL m1 r 0 k = mL m r 0 k := fun r k z => a3.1 r 0 k z
      refine ⟨k1, by rw [(n 28 i (fun z => by unfold QB at z; omega)).1]; exact k2, fun j q hj => ?_⟩
      have hj2 := (List.getElem?_eq_some_iff.mp hj).1
      rw [(n 29 _ (fun z => by unfold QB at z; omega)).1, (n 30 _ (fun z => by unfold QB at z; omega)).2]
      exact k3 j q hj
