/-! the reference: deliver, all -/
theorem rr_deliver {s : ST} {m : MM} {i : Int32} (h : RR s m) (hgk : ∀ g ∈ c_ms s, g_so g ≤ 10) (ht : ∀ j g, (c_ms s)[j]? = some g → may s g = true → TK s j g ∧ TR s j g) :
    ∃ m', go 150 0 [some (vr 8 (some 0)), some (vi i), none] [] m = some (some (vi (o_deliver s i).1), m') ∧ RR (o_deliver s i).2 m' ∧ fs QW m m' := by
  obtain ⟨k1, k2, k3⟩ := h.2.2.2.2.1
  have hx := h.1.1
  have hn := h.1.2.1
  have b0 := go_in (m := m) (v := i.toInt64) (a := 0) (b := (nI (c_ms s).length - 1).toInt64)
  rw [t64, t64, nI_m1 (by omega), show (0 : Int64).toInt = 0 by decide] at b0
  unfold o_deliver
  by_cases hi : 0 ≤ i.toInt ∧ i.toInt < (c_ms s).length
  · rw [decide_eq_true (by omega), b2_t] at b0
    obtain ⟨q1, q2⟩ := i_of hi
    rw [if_pos hi]
    have hg : (c_ms s)[i.toInt.toNat]? = some (c_ms s)[i.toInt.toNat] := List.getElem?_eq_getElem q1
    generalize i.toInt.toNat = j at *
    rw [hg]
    generalize (c_ms s)[j] = g at *
    subst q2
    have i43 := ixN (FN_43 hn) (i := j) (by omega) (by decide)
    have g1 := (k3 j g hg).1
    have mm := rr_may h.1 h.2.2.2.2.1 h.2.2.2.2.2.1 hg (hgk g (List.mem_of_getElem? hg))
    cases hm : may s g
    · rw [hm, b2_f] at mm
      simp only [hm, Bool.false_eq_true, if_false]
      refine ⟨m, ?_, h, fs_rf _ _⟩
      simp [s150_0, s150_1, s150_2, s150_3, s150_4, s150_7, s150_8, s150_9, s150_10, s150_13, s150_16, s150_17, s150_18, s150_19, s150_20, s150_23, s150_26, s150_28, s150_29, s150_30, s150_33, s150_34, s150_35i, s150_35r, s150_35n, s150_36, s150_37, s150_38, s150_41, s150_42, eq_self, ixk_some, bd_some, nl_n, nl_i, nl_r, Option.toList_some, Option.toList_none, List.cons_append, List.nil_append, k1, b0, mm]
    · rw [hm, b2_t] at mm
      simp only [hm, if_true]
      obtain ⟨T1, T2⟩ := ht j g hg hm
      obtain ⟨m1, d1, d2, d3⟩ := rr_come h hg T1 T2
      refine ⟨m1, ?_, d2, d3⟩
      simp [s150_0, s150_1, s150_2, s150_3, s150_4, s150_7, s150_8, s150_9, s150_10, s150_13, s150_16, s150_17, s150_18, s150_19, s150_20, s150_23, s150_26, s150_28, s150_29, s150_30, s150_33, s150_34, s150_35i, s150_35r, s150_35n, s150_36, s150_37, s150_38, s150_41, s150_42, eq_self, ixk_some, bd_some, nl_n, nl_i, nl_r, Option.toList_some, Option.toList_none, List.cons_append, List.nil_append, k1, b0, mm, FX_2 hx, FX_3 hx, FX_4 hx, FX_5 hx, FX_6 hx, FX_7 hx, FX_8 hx, FX_9 hx, FX_10 hx, FX_11 hx, FX_12 hx, FX_13 hx, FX_15 hx, FX_19 hx, FX_20 hx, FX_21 hx, FX_22 hx, FX_23 hx, FX_24 hx, FX_25 hx, FX_26 hx, FX_27 hx, FX_28 hx, FX_29 hx, FX_31 hx, FX_32 hx, FX_33 hx, FX_34 hx, FX_35 hx, FX_36 hx, FX_37 hx, FX_39 hx, FX_40 hx, i43, g1, d1]
  · rw [decide_eq_false (by omega), b2_f] at b0
    rw [if_neg hi]
    refine ⟨m, ?_, h, fs_rf _ _⟩
    simp [s150_0, s150_1, s150_2, s150_3, s150_4, s150_7, s150_8, s150_9, s150_10, s150_13, s150_16, s150_17, s150_18, s150_19, s150_20, s150_23, s150_26, s150_28, s150_29, s150_30, s150_33, s150_34, s150_35i, s150_35r, s150_35n, s150_36, s150_37, s150_38, s150_41, s150_42, eq_self, ixk_some, bd_some, nl_n, nl_i, nl_r, Option.toList_some, Option.toList_none, List.cons_append, List.nil_append, k1, b0]
theorem rall_loop {n : Nat} (hn : n ≤ 1000) (J : Nat → ST → Prop) (hJ : ∀ t s, J t s → (∀ g ∈ c_ms s, g_so g ≤ 10) ∧ ∀ i g, (c_ms s)[i]? = some g → may s g = true → (TK s i g ∧ TR s i g) ∧ J (t + 1) (come s i)) :
    ∀ d t (s : ST) (m : MM) (k : Nat), k + d = n → J t s → RR s m →
    ∃ m', go 152 16 [some (vr 8 (some 0)), some (vi (nI n)), some (vi (nI k))] [] m = some (some (vi (nI (allF s d k).1)), m') ∧ RR (allF s d k).2 m' ∧ fs QW m m'
  | 0, t, s, m, k, hd, hs, h => by
    refine ⟨m, ?_, h, fs_rf _ _⟩
    rw [s152_16]
    simp only [s152_17, s152_18, eq_self, ixk_some, bd_some, nl_n, nl_i, nl_r, Option.toList_some, Option.toList_none, List.cons_append, List.nil_append]
    rw [if_pos (nI_le (by omega) (by omega))]
    simp only [s152_44, s152_45, eq_self, ixk_some, bd_some, nl_n, nl_i, nl_r, Option.toList_some, Option.toList_none, List.cons_append, List.nil_append]
    rfl
  | d + 1, t, s, m, k, hd, hs, h => by
    obtain ⟨hgk, hT⟩ := hJ t s hs
    have f1 := rr_first h.1 h.2.2.2.2.1 h.2.2.2.2.2.1 hgk
    rw [s152_16]
    simp only [s152_17, s152_18, eq_self, ixk_some, bd_some, nl_n, nl_i, nl_r, Option.toList_some, Option.toList_none, List.cons_append, List.nil_append]
    rw [if_neg (nI_ge (by omega) (by omega))]
    unfold allF
    cases hf : (c_ms s).findIdx? (may s) with
    | none => 
      rw [hf, show enc none = -4 from rfl] at f1
      refine ⟨m, ?_, h, fs_rf _ _⟩
      simp [s152_21, s152_22, s152_25, s152_27, s152_44, s152_45, eq_self, ixk_some, bd_some, nl_n, nl_i, nl_r, Option.toList_some, Option.toList_none, List.cons_append, List.nil_append, f1]
    | some i => 
      rw [hf] at f1
      have f1 : go 151 0 [some (vr 8 (some 0)), none] [] m = some (some (vi (nI i)), m) := f1
      obtain ⟨hi, hp, -⟩ := List.findIdx?_eq_some_iff_getElem.mp hf
      have hgi : (c_ms s)[i]? = some (c_ms s)[i] := List.getElem?_eq_getElem hi
      obtain ⟨⟨T1, T1'⟩, T2⟩ := hT i _ hgi hp
      obtain ⟨m1, d1, d2, d3⟩ := rr_come h hgi T1 T1'
      obtain ⟨m2, b1, b2, b3⟩ := rall_loop hn J hJ d (t + 1) _ m1 (k + 1) (by omega) T2 d2
      refine ⟨m2, ?_, b2, fs_tr d3 b3⟩
      have hl := h.2.2.2.2.1.2.1
      have hne := nI_n4 (p := i) (by omega)
      have s1 : nI k + 1 = nI (k + 1) := nI_1 k
      simp [s152_0, s152_1, s152_2, s152_3, s152_6, s152_9, s152_12, s152_13, s152_14, s152_15i, s152_15r, s152_15n, s152_17, s152_18, s152_21, s152_22, s152_25, s152_27, s152_30, s152_31, s152_32, s152_35, s152_38i, s152_38r, s152_38n, s152_41, s152_44, s152_45, eq_self, ixk_some, bd_some, nl_n, nl_i, nl_r, Option.toList_some, Option.toList_none, List.cons_append, List.nil_append, f1, hne, d1, s1, b1]
theorem rr_all {s : ST} {m : MM} {n : Int32} {t : Nat} (J : Nat → ST → Prop) (hJ : ∀ t s, J t s → (∀ g ∈ c_ms s, g_so g ≤ 10) ∧ ∀ i g, (c_ms s)[i]? = some g → may s g = true → (TK s i g ∧ TR s i g) ∧ J (t + 1) (come s i)) (hs : J t s) (h : RR s m) :
    ∃ m', go 152 0 [some (vr 8 (some 0)), some (vi n), none] [] m = some (some (vi (o_all s n).1), m') ∧ RR (o_all s n).2 m' ∧ fs QW m m' := by
  unfold o_all
  have b0 := go_in (m := m) (v := n.toInt64) (a := 0) (b := 1000)
  rw [t64, show (0 : Int64).toInt = 0 by decide, show (1000 : Int64).toInt = 1000 by decide] at b0
  by_cases hn : 0 ≤ n.toInt ∧ n.toInt ≤ 1000
  · rw [if_pos hn]
    rw [decide_eq_true hn, b2_t] at b0
    have hn1 : n.toInt.toNat ≤ 1000 := by omega
    have hn2 : n = nI n.toInt.toNat := by
      apply Int32.toInt_inj.mp
      rw [nI_toInt (by omega)]
      omega
    obtain ⟨m1, b1, b2, b3⟩ := rall_loop hn1 J hJ n.toInt.toNat t s m 0 (by omega) hs h
    refine ⟨m1, ?_, b2, b3⟩
    rw [← b1, ← hn2]
    simp [s152_0, s152_1, s152_2, s152_3, s152_6, s152_9, s152_14, s152_15i, s152_15r, s152_15n, eq_self, ixk_some, bd_some, nl_n, nl_i, nl_r, Option.toList_some, Option.toList_none, List.cons_append, List.nil_append, b0]
    rfl
  · rw [if_neg hn]
    rw [decide_eq_false hn, b2_f] at b0
    refine ⟨m, ?_, h, fs_rf _ _⟩
    simp [s152_0, s152_1, s152_2, s152_3, s152_6, s152_9, s152_12, s152_13, eq_self, ixk_some, bd_some, nl_n, nl_i, nl_r, Option.toList_some, Option.toList_none, List.cons_append, List.nil_append, b0]
/-! the reference: peers made -/
def npM (m : MM) (i : Nat) : Nat → Nat → MM
  | 0, _ => m
  | d + 1, l => npM (rpM m i l 0 (-4) (-4)) i d (l + 1)
theorem npM_get (i : Nat) : ∀ d l (m : MM), fs (fun r k => (23 ≤ r ∧ r ≤ 25) ∧ 9 * i + l ≤ k ∧ k < 9 * i + l + d) m (npM m i d l) ∧ ∀ k, l ≤ k → k < l + d → mI (npM m i d l) 23 0 (9 * i + k) = 0 ∧ mI (npM m i d l) 24 0 (9 * i + k) = -4 ∧ mI (npM m i d l) 25 0 (9 * i + k) = -4
  | 0, l, m => ⟨fs_rf _ _, fun k a b => by omega⟩
  | d + 1, l, m => by
    obtain ⟨h1, h2⟩ := npM_get i d (l + 1) (rpM m i l 0 (-4) (-4))
    refine ⟨fs_tr (fs_le (rpM_fs m i l 0 (-4) (-4)) (fun r k z => ⟨z.1, by omega, by omega⟩)) (fs_le h1 (fun r k z => ⟨z.1, by omega, by omega⟩)), fun k a b => ?_⟩
    by_cases e : k = l
    · subst e
      obtain ⟨g1, g2, g3⟩ := rpM_g m i k 0 (-4) (-4)
      have n : ∀ r, mI (npM (rpM m i k 0 (-4) (-4)) i d (k + 1)) r 0 (9 * i + k) = mI (rpM m i k 0 (-4) (-4)) r 0 (9 * i + k) := fun r => (h1.1 r 0 _ (by omega)).1
      show mI (npM (rpM m i k 0 (-4) (-4)) i d (k + 1)) 23 0 (9 * i + k) = 0 ∧ mI (npM (rpM m i k 0 (-4) (-4)) i d (k + 1)) 24 0 (9 * i + k) = -4 ∧ mI (npM (rpM m i k 0 (-4) (-4)) i d (k + 1)) 25 0 (9 * i + k) = -4
      rw [n, n, n]
      exact ⟨g1, g2, g3⟩
    · exact h2 k (by omega) (by omega)
theorem np_loop {i : Nat} {a2 : Int32} (hi : i < 32) : ∀ d l (m : MM), FX m → FN m → l + d = 9 → go 107 2 [some (vr 8 (some 0)), some (vi (nI i)), some (vi a2), some (vi (nI l))] [] m = some (none, npM m i d l) := by
  intro d
  induction d with
  | zero => 
    intro l m hx hn hl
    rw [s107_2]
    simp only [s107_3, s107_5, eq_self, ixk_some, bd_some, nl_n, nl_i, nl_r, Option.toList_some, Option.toList_none, List.cons_append, List.nil_append]
    rw [nI_k9, if_pos (nI_le (by omega) (by omega))]
    simp only [s107_52, eq_self, ixk_some, bd_some, nl_n, nl_i, nl_r, Option.toList_some, Option.toList_none, List.cons_append, List.nil_append]
    rfl
  | succ d ih => 
    intro l m hx hn hl
    have i23 := ixN (FN_23 hn) (i := 9 * i + l) (by omega) (by decide)
    have i24 := ixN (FN_24 hn) (i := 9 * i + l) (by omega) (by decide)
    have i25 := ixN (FN_25 hn) (i := 9 * i + l) (by omega) (by decide)
    have s1 : nI l + 1 = nI (l + 1) := nI_1 l
    have b1 := ih (l + 1) (rpM m i l 0 (-4) (-4)) hx hn (by omega)
    have ed : sI (sI (sI m 23 0 (9 * i + l) 0) 24 0 (9 * i + l) (-4)) 25 0 (9 * i + l) (-4) = rpM m i l 0 (-4) (-4) := rfl
    rw [s107_2]
    simp only [s107_3, s107_5, eq_self, ixk_some, bd_some, nl_n, nl_i, nl_r, Option.toList_some, Option.toList_none, List.cons_append, List.nil_append]
    rw [nI_k9, if_neg (nI_ge (by omega) (by omega))]
    simp only [s107_0, s107_1i, s107_1r, s107_1n, s107_3, s107_5, s107_8, s107_9, s107_12, s107_14, s107_15, s107_16, s107_17, s107_18, s107_19b0, s107_19b1, s107_20, s107_21, s107_24, s107_26, s107_27, s107_28, s107_29, s107_30, s107_32, s107_33, s107_34, s107_37, s107_39, s107_40, s107_41, s107_42, s107_43, s107_45, s107_46i, s107_46r, s107_46n, s107_49, s107_52, eq_self, ixk_some, bd_some, nl_n, nl_i, nl_r, Option.toList_some, Option.toList_none, List.cons_append, List.nil_append, mR_sI, mN_sI, FX_2 hx, FX_3 hx, FX_4 hx, FX_5 hx, FX_6 hx, FX_7 hx, FX_8 hx, FX_9 hx, FX_10 hx, FX_11 hx, FX_12 hx, FX_13 hx, FX_15 hx, FX_19 hx, FX_20 hx, FX_21 hx, FX_22 hx, FX_23 hx, FX_24 hx, FX_25 hx, FX_26 hx, FX_27 hx, FX_28 hx, FX_29 hx, FX_31 hx, FX_32 hx, FX_33 hx, FX_34 hx, FX_35 hx, FX_36 hx, FX_37 hx, FX_39 hx, FX_40 hx, fl9, i23, i24, i25, ed, s1, b1]
    rfl
theorem rr_made {s : ST} {m : MM} {name b : Int32} (h : RR s m) (hn32 : c_n s < 32) : ∃ m', go 106 0 [some (vr 8 (some 0)), some (vi name), some (vi b), none] [] m = some (some (vi (nI (c_n s))), m') ∧ RR (made s name b) m' ∧ fs QW m m' := by
  have hx := h.1.1
  have hn := h.1.2.1
  have h0 := h.1.2.2.2.1
  obtain ⟨e1, e2, e3, e4, e5, e6, e7, e8, e9, e10, e11, e12, e13, e14, e15, e16, e17, e18, e19⟩ := made_f s name b
  have i19 := ixN (FN_19 hn) (i := c_n s) (by omega) (by decide)
  have i20 := ixN (FN_20 hn) (i := c_n s) (by omega) (by decide)
  have i21 := ixN (FN_21 hn) (i := c_n s) (by omega) (by decide)
  have i22 := ixN (FN_22 hn) (i := c_n s) (by omega) (by decide)
  have i26 := ixN (FN_26 hn) (i := c_n s) (by omega) (by decide)
  have i27 := ixN (FN_27 hn) (i := c_n s) (by omega) (by decide)
  have i28 := ixN (FN_28 hn) (i := c_n s) (by omega) (by decide)
  have s1 : nI (c_n s) + 1 = nI (c_n s + 1) := nI_1 _
  let m1 := sI (sI (sI (sI (sI (sI (sI (sI m 8 0 0 (nI (c_n s + 1))) 19 0 (c_n s) name) 20 0 (c_n s) b) 21 0 (c_n s) 0) 22 0 (c_n s) 0) 26 0 (c_n s) (-4)) 27 0 (c_n s) (-4)) 28 0 (c_n s) 0
  have F1 : fs (fun r k => (r = 8 ∧ k = 0) ∨ ((r = 19 ∨ r = 20 ∨ r = 21 ∨ r = 22 ∨ r = 26 ∨ r = 27 ∨ r = 28) ∧ k = c_n s)) m m1 := by
    refine fsI (fsI (fsI (fsI (fsI (fsI (fsI (fsI (fs_rf _ m) ?_) ?_) ?_) ?_) ?_) ?_) ?_) ?_
    · exact Or.inl ⟨rfl, rfl⟩
    all_goals exact Or.inr ⟨by decide, rfl⟩
  have v19 : mI m1 19 0 (c_n s) = name := by simp [m1, mI_sI]
  have v20 : mI m1 20 0 (c_n s) = b := by simp [m1, mI_sI]
  have v21 : mI m1 21 0 (c_n s) = 0 := by simp [m1, mI_sI]
  have v22 : mI m1 22 0 (c_n s) = 0 := by simp [m1, mI_sI]
  have v26 : mI m1 26 0 (c_n s) = -4 := by simp [m1, mI_sI]
  have v27 : mI m1 27 0 (c_n s) = -4 := by simp [m1, mI_sI]
  have v28 : mI m1 28 0 (c_n s) = 0 := by simp [m1, mI_sI]
  have v0 : mI m1 8 0 0 = nI (c_n s + 1) := by simp [m1, mI_sI]
  have ed : m1 = sI (sI (sI (sI (sI (sI (sI (sI m 8 0 0 (nI (c_n s + 1))) 19 0 (c_n s) name) 20 0 (c_n s) b) 21 0 (c_n s) 0) 22 0 (c_n s) 0) 26 0 (c_n s) (-4)) 27 0 (c_n s) (-4)) 28 0 (c_n s) 0 := rfl
  have N1 := np_loop (i := c_n s) (a2 := 0) hn32 9 0 m1 (FX_fs hx F1) (FN_fs hn F1) (by omega)
  obtain ⟨F2, P2⟩ := npM_get (c_n s) 9 0 m1
  have F : fs (fun r k => (r = 8 ∧ k = 0) ∨ ((19 ≤ r ∧ r ≤ 22 ∨ 26 ≤ r ∧ r ≤ 28) ∧ k = c_n s) ∨ ((23 ≤ r ∧ r ≤ 25) ∧ 9 * c_n s ≤ k ∧ k < 9 * c_n s + 9)) m (npM m1 (c_n s) 9 0) := fs_tr (fs_le F1 (fun r k z => by omega)) (fs_le F2 (fun r k z => by omega))
  refine ⟨npM m1 (c_n s) 9 0, ?_, ?_, fs_le F (fun r k z => by unfold QW; omega)⟩
  · have N0 : go 107 0 [some (vr 8 (some 0)), some (vi (nI (c_n s))), some (vi 0), none] [] m1 = some (none, npM m1 (c_n s) 9 0) := by
      rw [← N1]
      simp only [s107_0, s107_1i, s107_1r, s107_1n, eq_self, ixk_some, bd_some, nl_n, nl_i, nl_r, Option.toList_some, Option.toList_none, List.cons_append, List.nil_append]
      rfl
    rw [ed] at N0 ⊢
    simp only [s106_0, s106_1, s106_4i, s106_4r, s106_4n, s106_5, s106_6, s106_7, s106_10, s106_11, s106_12, s106_15, s106_16, s106_19, s106_20, s106_21, s106_22, s106_23, s106_26, s106_27, s106_28, s106_29, s106_30, s106_33, s106_34, s106_35, s106_36, s106_37, s106_40, s106_41, s106_42, s106_43, s106_44, s106_47, s106_48, s106_50, s106_51, s106_52, s106_55, s106_56, s106_58, s106_59, s106_60, s106_63, s106_64, s106_65, s106_66, s106_67, s106_68, s106_69, s106_72, s106_73, eq_self, ixk_some, bd_some, nl_n, nl_i, nl_r, Option.toList_some, Option.toList_none, List.cons_append, List.nil_append, mR_sI, mN_sI, FX_2 hx, FX_3 hx, FX_4 hx, FX_5 hx, FX_6 hx, FX_7 hx, FX_8 hx, FX_9 hx, FX_10 hx, FX_11 hx, FX_12 hx, FX_13 hx, FX_15 hx, FX_19 hx, FX_20 hx, FX_21 hx, FX_22 hx, FX_23 hx, FX_24 hx, FX_25 hx, FX_26 hx, FX_27 hx, FX_28 hx, FX_29 hx, FX_31 hx, FX_32 hx, FX_33 hx, FX_34 hx, FX_35 hx, FX_36 hx, FX_37 hx, FX_39 hx, FX_40 hx, h0, s1, i19, i20, i21, i22, i26, i27, i28, N0]
  · have n2 : ∀ r k, ¬ ((23 ≤ r ∧ r ≤ 25) ∧ 9 * c_n s + 0 ≤ k ∧ k < 9 * c_n s + 0 + 9) → mI (npM m1 (c_n s) 9 0) r 0 k = mI m1 r 0 k := fun r k z => (F2.1 r 0 k z).1
    have nf : ∀ r k, ¬ ((r = 8 ∧ k = 0) ∨ ((19 ≤ r ∧ r ≤ 22 ∨ 26 ≤ r ∧ r ≤ 28) ∧ k = c_n s) ∨ ((23 ≤ r ∧ r ≤ 25) ∧ 9 * c_n s ≤ k ∧ k < 9 * c_n s + 9)) → mI (npM m1 (c_n s) 9 0) r 0 k = mI m r 0 k ∧ mL (npM m1 (c_n s) 9 0) r 0 k = mL m r 0 k := fun r k z => F.1 r 0 k z
    generalize npM m1 (c_n s) 9 0 = m2 at *
    obtain ⟨h1, h2, h3, h4, h5, h6, h7⟩ := h
    have q : ∀ r k, ((r = 8 ∧ k = 0) ∨ ((19 ≤ r ∧ r ≤ 22 ∨ 26 ≤ r ∧ r ≤ 28) ∧ k = c_n s) ∨ ((23 ≤ r ∧ r ≤ 25) ∧ 9 * c_n s ≤ k ∧ k < 9 * c_n s + 9)) → (r = 8 ∧ k = 0) ∨ (19 ≤ r ∧ r ≤ 28) := fun r k z => by omega
    refine ⟨⟨FX_fs hx F, FN_fs hn F, by rw [e1]; omega, by rw [e1, n2 8 0 (by omega)]; exact v0, fun j hj => ?_, fun j hj => ?_⟩, fun j hj => ?_, ?_, ?_, ?_, ?_, ?_⟩
    · rw [e1] at hj
      rw [e4]
      unfold up1
      by_cases e : j = c_n s
      · rw [if_pos e]; omega
      · rw [if_neg e]; exact h1.2.2.2.2.1 j (by omega)
    · rw [e1] at hj
      unfold RR1
      rw [e2, e3, e4, e5, e6, e7, e8]
      by_cases e : j = c_n s
      · rw [e]
        simp only [up1_get, if_true]
        refine ⟨by rw [n2 19 _ (by omega)]; exact v19, by rw [n2 20 _ (by omega)]; exact v20, by rw [n2 21 _ (by omega)]; exact v21, by rw [n2 22 _ (by omega)]; exact v22, by rw [n2 26 _ (by omega)]; exact v26, by rw [n2 27 _ (by omega)]; exact v27, fun l hl => ?_⟩
        rw [if_pos ⟨trivial, Nat.zero_le _, hl⟩]
        simp only [true_and, Nat.zero_le, hl, if_true]
        exact P2 l (Nat.zero_le _) (by omega)
      · obtain ⟨k1, k2, k3, k4, k5, k6, k7⟩ := h1.2.2.2.2.2 j (by omega)
        rw [show up1 (c_nm s) (c_n s) name j = c_nm s j from if_neg e, show up1 (c_bt s) (c_n s) b j = c_bt s j from if_neg e, show up1 (c_be s) (c_n s) 0 j = c_be s j from if_neg e, show up1 (c_ld s) (c_n s) 0 j = c_ld s j from if_neg e]
        simp only [e, if_false, false_and]
        refine ⟨by rw [(nf 19 j (by omega)).1]; exact k1, by rw [(nf 20 j (by omega)).1]; exact k2, by rw [(nf 21 j (by omega)).1]; exact k3, by rw [(nf 22 j (by omega)).1]; exact k4, by rw [(nf 26 j (by omega)).1]; exact k5, by rw [(nf 27 j (by omega)).1]; exact k6, fun l hl => ?_⟩
        rw [(nf 23 _ (by omega)).1, (nf 24 _ (by omega)).1, (nf 25 _ (by omega)).1]
        exact k7 l hl
    · rw [e1] at hj
      rw [e9]
      by_cases e : j = c_n s
      · rw [e, up1_get]
        exact ⟨Nat.zero_le _, by rw [n2 28 _ (by omega)]; exact v28, fun k x hx => by simp at hx⟩
      · rw [show up1 (c_pr s) (c_n s) [] j = c_pr s j from if_neg e]
        obtain ⟨k1, k2, k3⟩ := h2 j (by omega)
        refine ⟨k1, by rw [(nf 28 j (by omega)).1]; exact k2, fun k x hx => ?_⟩
        rw [(nf 29 _ (by omega)).1, (nf 30 _ (by omega)).2]
        exact k3 k x hx
    · have := RRk_fs h3 F (fun r k z => by have := q r k z; omega)
      unfold RRk at this ⊢
      rw [e10, e11]; exact this
    · have := RRa_fs h4 F (fun r k z => by have := q r k z; omega)
      unfold RRa at this ⊢
      rw [e12, e13]; exact this
    · have := RRm_fs h5 F (fun r k z => by have := q r k z; omega)
      unfold RRm RR3 at this ⊢
      rw [e14, e16]; exact this
    · have := RRc_fs h6 F (fun r k z => by have := q r k z; omega)
      unfold RRc at this ⊢
      rw [e15, e16, e17, e18]; exact this
    · exact RRb_fs h7 F (fun r k z => by have := q r k z; omega) (fun g a _ => by rw [e14] at a; exact a) e19
