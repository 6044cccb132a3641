/-! all() with a bound on the clock; what a call asks -/
theorem all_loop2 {n : Nat} (hn : n ≤ 1000) (J : Nat → ST → Prop) {B : Nat} (hJ : ∀ t s, t < B → J t s → (∀ g ∈ c_ms s, GOK s g) ∧ ∀ i g, (c_ms s)[i]? = some g → may s g = true → TK s i g ∧ J (t + 1) (come s i)) :
    ∀ d t (s : ST) (m : MM) (k : Nat) (a3 : Option AV), k + d = n → t + d ≤ B → J t s → RC s m →
    ∃ m', go 65 15 [some (vr 7 (some 0)), some (vi (nI n)), some (vi (nI k)), a3] [] m = some (some (vi (nI (allF s d k).1)), m') ∧ RC (allF s d k).2 m' ∧ fg QZ m m'
  | 0, t, s, m, k, a3, hd, hB, hs, h => by
    refine ⟨m, ?_, h, fg_rf _ _⟩
    rw [s65_15]
    simp only [s65_16, s65_17, eq_self, ixk_some, bd_some, nl_n, nl_i, nl_r, Option.toList_some, Option.toList_none, List.cons_append, List.nil_append]
    rw [if_pos (nI_le (by omega) (by omega))]
    simp only [s65_46, s65_47, eq_self, ixk_some, bd_some, nl_n, nl_i, nl_r, Option.toList_some, Option.toList_none, List.cons_append, List.nil_append]
    rfl
  | d + 1, t, s, m, k, a3, hd, hB, hs, h => by
    obtain ⟨hgk, hT⟩ := hJ t s (by omega) hs
    have f1 := go_firstToTake h.2.2.2.2.1 h.2.1 hgk
    have e4 : enc none = -4 := rfl
    rw [s65_15]
    simp only [s65_16, s65_17, eq_self, ixk_some, bd_some, nl_n, nl_i, nl_r, Option.toList_some, Option.toList_none, List.cons_append, List.nil_append]
    rw [if_neg (nI_ge (by omega) (by omega))]
    unfold allF
    cases hf : (c_ms s).findIdx? (may s) with
    | none => 
      rw [hf, e4] at f1
      refine ⟨m, ?_, h, fg_rf _ _⟩
      simp [s65_20, s65_21, s65_24i, s65_24r, s65_24n, s65_25, s65_26, s65_28, s65_31, s65_46, s65_47, eq_self, ixk_some, bd_some, nl_n, nl_i, nl_r, Option.toList_some, Option.toList_none, List.cons_append, List.nil_append, f1]
    | some i => 
      rw [hf] at f1
      have f1 : go 68 0 [some (vr 7 (some 0)), none] [] m = some (some (vi (nI i)), m) := f1
      obtain ⟨hi, hp, -⟩ := List.findIdx?_eq_some_iff_getElem.mp hf
      have hgi : (c_ms s)[i]? = some (c_ms s)[i] := List.getElem?_eq_getElem hi
      obtain ⟨T1, T2⟩ := hT i _ hgi hp
      obtain ⟨m1, d1, d2, d3⟩ := go_take h hgi T1
      obtain ⟨m2, b1, b2, b3⟩ := all_loop2 hn J hJ d (t + 1) _ m1 (k + 1) (some (vi (nI i))) (by omega) (by omega) T2 d2
      refine ⟨m2, ?_, b2, fg_tr d3 b3⟩
      have hl := h.2.2.2.2.1.2.2.2.2.1
      have hne : ¬ nI i = -4 := by
        intro z
        have := congrArg Int32.toInt z
        rw [nI_toInt (by omega)] at this
        have h4 : ((-4 : Int32)).toInt = -4 := by decide
        omega
      have s1 : nI k + 1 = nI (k + 1) := nI_1 k
      simp [s65_0, s65_1, s65_4, s65_5, s65_8, s65_11, s65_12, s65_13, s65_14i, s65_14r, s65_14n, s65_16, s65_17, s65_20, s65_21, s65_24i, s65_24r, s65_24n, s65_25, s65_26, s65_28, s65_31, s65_34, s65_35, s65_36, s65_39, s65_40i, s65_40r, s65_40n, s65_43, s65_46, s65_47, eq_self, ixk_some, bd_some, nl_n, nl_i, nl_r, Option.toList_some, Option.toList_none, List.cons_append, List.nil_append, f1, hne, d1, s1, b1]
theorem go_all2 {s : ST} {m : MM} {n : Int32} {t : Nat} (J : Nat → ST → Prop) {B : Nat} (hJ : ∀ t s, t < B → J t s → (∀ g ∈ c_ms s, GOK s g) ∧ ∀ i g, (c_ms s)[i]? = some g → may s g = true → TK s i g ∧ J (t + 1) (come s i)) (hB : t + 1000 ≤ B) (hs : J t s) (h : RC s m) :
    ∃ m', go 65 0 [some (vr 7 (some 0)), some (vi n), none, none] [] m = some (some (vi (o_all s n).1), m') ∧ RC (o_all s n).2 m' ∧ fg QZ m m' := by
  unfold o_all
  have e1 : (1000 : Int32) = nI 1000 := rfl
  by_cases hn : 0 ≤ n.toInt ∧ n.toInt ≤ 1000
  · rw [if_pos hn]
    have hn1 : n.toInt.toNat ≤ 1000 := by omega
    have hn2 : n = nI n.toInt.toNat := by
      apply Int32.toInt_inj.mp
      rw [nI_toInt (by omega)]
      omega
    obtain ⟨m1, b1, b2, b3⟩ := all_loop2 hn1 J hJ n.toInt.toNat t s m 0 none (by omega) (by omega) hs h
    refine ⟨m1, ?_, b2, b3⟩
    rw [← b1]
    rw [← hn2]
    have x0 : ¬ n < 0 := i_nlt.mpr (Int32.le_iff_toInt_le.mpr hn.1)
    have x1 : n ≤ 1000 := Int32.le_iff_toInt_le.mpr hn.2
    simp [s65_0, s65_1, s65_4, s65_5, s65_8, s65_13, s65_14i, s65_14r, s65_14n, eq_self, ixk_some, bd_some, nl_n, nl_i, nl_r, Option.toList_some, Option.toList_none, List.cons_append, List.nil_append, x0, x1]
    rfl
  · rw [if_neg hn]
    refine ⟨m, ?_, h, fg_rf _ _⟩
    by_cases x0 : n < 0
    · simp only [s65_0, s65_1, s65_11, s65_12, eq_self, ixk_some, bd_some, nl_n, nl_i, nl_r, Option.toList_some, Option.toList_none, List.cons_append, List.nil_append, if_pos x0]
    · have x1 : ¬ n ≤ 1000 := fun z => hn ⟨Int32.le_iff_toInt_le.mp (i_nlt.mp x0), Int32.le_iff_toInt_le.mp z⟩
      simp only [s65_0, s65_1, s65_4, s65_5, s65_8, s65_11, s65_12, eq_self, ixk_some, bd_some, nl_n, nl_i, nl_r, Option.toList_some, Option.toList_none, List.cons_append, List.nil_append, if_neg x0, if_neg x1]
theorem rall_loop2 {n : Nat} (hn : n ≤ 1000) (J : Nat → ST → Prop) {B : Nat} (hJ : ∀ t s, t < B → J t s → (∀ g ∈ c_ms s, g_so g ≤ 10) ∧ ∀ i g, (c_ms s)[i]? = some g → may s g = true → (TK s i g ∧ TR s i g) ∧ J (t + 1) (come s i)) :
    ∀ d t (s : ST) (m : MM) (k : Nat), k + d = n → t + d ≤ B → J t s → RR s m →
    ∃ m', go 152 16 [some (vr 8 (some 0)), some (vi (nI n)), some (vi (nI k))] [] m = some (some (vi (nI (allF s d k).1)), m') ∧ RR (allF s d k).2 m' ∧ fs QW m m'
  | 0, t, s, m, k, hd, hB, hs, h => by
    refine ⟨m, ?_, h, fs_rf _ _⟩
    rw [s152_16]
    simp only [s152_17, s152_18, eq_self, ixk_some, bd_some, nl_n, nl_i, nl_r, Option.toList_some, Option.toList_none, List.cons_append, List.nil_append]
    rw [if_pos (nI_le (by omega) (by omega))]
    simp only [s152_44, s152_45, eq_self, ixk_some, bd_some, nl_n, nl_i, nl_r, Option.toList_some, Option.toList_none, List.cons_append, List.nil_append]
    rfl
  | d + 1, t, s, m, k, hd, hB, hs, h => by
    obtain ⟨hgk, hT⟩ := hJ t s (by omega) hs
    have f1 := rr_first h.1 h.2.2.2.2.1 h.2.2.2.2.2.1 hgk
    rw [s152_16]
    simp only [s152_17, s152_18, eq_self, ixk_some, bd_some, nl_n, nl_i, nl_r, Option.toList_some, Option.toList_none, List.cons_append, List.nil_append]
    rw [if_neg (nI_ge (by omega) (by omega))]
    unfold allF
    cases hf : (c_ms s).findIdx? (may s) with
    | none => 
      rw [hf, show enc none = -4 from rfl] at f1
      refine ⟨m, ?_, h, fs_rf _ _⟩
      simp [s152_21, s152_22, s152_25, s152_27, s152_44, s152_45, eq_self, ixk_some, bd_some, nl_n, nl_i, nl_r, Option.toList_some, Option.toList_none, List.cons_append, List.nil_append, f1]
    | some i => 
      rw [hf] at f1
      have f1 : go 151 0 [some (vr 8 (some 0)), none] [] m = some (some (vi (nI i)), m) := f1
      obtain ⟨hi, hp, -⟩ := List.findIdx?_eq_some_iff_getElem.mp hf
      have hgi : (c_ms s)[i]? = some (c_ms s)[i] := List.getElem?_eq_getElem hi
      obtain ⟨⟨T1, T1'⟩, T2⟩ := hT i _ hgi hp
      obtain ⟨m1, d1, d2, d3⟩ := rr_come h hgi T1 T1'
      obtain ⟨m2, b1, b2, b3⟩ := rall_loop2 hn J hJ d (t + 1) _ m1 (k + 1) (by omega) (by omega) T2 d2
      refine ⟨m2, ?_, b2, fs_tr d3 b3⟩
      have hl := h.2.2.2.2.1.2.1
      have hne := nI_n4 (p := i) (by omega)
      have s1 : nI k + 1 = nI (k + 1) := nI_1 k
      simp [s152_0, s152_1, s152_2, s152_3, s152_6, s152_9, s152_12, s152_13, s152_14, s152_15i, s152_15r, s152_15n, s152_17, s152_18, s152_21, s152_22, s152_25, s152_27, s152_30, s152_31, s152_32, s152_35, s152_38i, s152_38r, s152_38n, s152_41, s152_44, s152_45, eq_self, ixk_some, bd_some, nl_n, nl_i, nl_r, Option.toList_some, Option.toList_none, List.cons_append, List.nil_append, f1, hne, d1, s1, b1]
theorem rr_all2 {s : ST} {m : MM} {n : Int32} {t : Nat} (J : Nat → ST → Prop) {B : Nat} (hJ : ∀ t s, t < B → J t s → (∀ g ∈ c_ms s, g_so g ≤ 10) ∧ ∀ i g, (c_ms s)[i]? = some g → may s g = true → (TK s i g ∧ TR s i g) ∧ J (t + 1) (come s i)) (hB : t + 1000 ≤ B) (hs : J t s) (h : RR s m) :
    ∃ m', go 152 0 [some (vr 8 (some 0)), some (vi n), none] [] m = some (some (vi (o_all s n).1), m') ∧ RR (o_all s n).2 m' ∧ fs QW m m' := by
  unfold o_all
  have b0 := go_in (m := m) (v := n.toInt64) (a := 0) (b := 1000)
  rw [t64, show (0 : Int64).toInt = 0 by decide, show (1000 : Int64).toInt = 1000 by decide] at b0
  by_cases hn : 0 ≤ n.toInt ∧ n.toInt ≤ 1000
  · rw [if_pos hn]
    rw [decide_eq_true hn, b2_t] at b0
    have hn1 : n.toInt.toNat ≤ 1000 := by omega
    have hn2 : n = nI n.toInt.toNat := by
      apply Int32.toInt_inj.mp
      rw [nI_toInt (by omega)]
      omega
    obtain ⟨m1, b1, b2, b3⟩ := rall_loop2 hn1 J hJ n.toInt.toNat t s m 0 (by omega) (by omega) hs h
    refine ⟨m1, ?_, b2, b3⟩
    rw [← b1, ← hn2]
    simp [s152_0, s152_1, s152_2, s152_3, s152_6, s152_9, s152_14, s152_15i, s152_15r, s152_15n, eq_self, ixk_some, bd_some, nl_n, nl_i, nl_r, Option.toList_some, Option.toList_none, List.cons_append, List.nil_append, b0]
    rfl
  · rw [if_neg hn]
    rw [decide_eq_false hn, b2_f] at b0
    refine ⟨m, ?_, h, fs_rf _ _⟩
    simp [s152_0, s152_1, s152_2, s152_3, s152_6, s152_9, s152_12, s152_13, eq_self, ixk_some, bd_some, nl_n, nl_i, nl_r, Option.toList_some, Option.toList_none, List.cons_append, List.nil_append, b0]
theorem inv_all {t : Nat} {s : ST} (hI : INV t s) : (c_ms s).length < 192 ∧ (c_ck s = 0 → (c_ms s).length ≤ 160) ∧ (c_ck s = 0 → ∀ g, g ∈ c_ms s → g_as g ≠ none ∧ g_so g ≤ 4) ∧ (∀ i, i < c_n s → srt (c_pr s i)) ∧ CLs s ∧ (∀ g, g ∈ c_ms s → GOK s g) ∧ (c_ck s = 0 → ∀ p, p < c_n s → c_be s p = 2 → ∀ q, wkD s (c_nm s q) 64 p ∧ wkN s (c_nm s q) 64 p) := by
  have l1 := i0_len hI.1
  have l2 := ch_le hI.1
  refine ⟨by omega, fun e => ?_, fun e g hg => ?_, fun i hi => (hI.1.2.1.1 i hi).1, hI.1.1.2.2.2, i0_gok hI.1, fun e p hp bp q => wk_64 hI.1.1 (ck0 hI (by omega)) hp bp⟩
  · have := p0_ch (ck0 hI (by omega))
    omega
  · have a := (ck0 hI (by omega)).2.2.2.1 g hg
    have b := i0_asN hI.1 g hg
    refine ⟨a, ?_⟩
    by_cases c : 4 < g_so g
    · exact absurd (b.1.mpr c) a
    · omega
theorem RR_QJ {s : ST} {m m' : MM} (h : RR s m) (hf : fs QJ m m') : RR s m' := by
  obtain ⟨h1, h2, h3, h4, h5, h6⟩ := hf
  have a0 : mI m' 8 0 0 = mI m 8 0 0 := (h1 8 0 0 (fun z => by unfold QJ at z; omega)).1
  have a1 : mI m' 8 0 1 = mI m 8 0 1 := (h1 8 0 1 (fun z => by unfold QJ at z; omega)).1
  have a14 : mI m' 8 0 14 = mI m 8 0 14 := (h1 8 0 14 (fun z => by unfold QJ at z; omega)).1
  have a16 : mI m' 8 0 16 = mI m 8 0 16 := (h1 8 0 16 (fun z => by unfold QJ at z; omega)).1
  have a17 : mI m' 8 0 17 = mI m 8 0 17 := (h1 8 0 17 (fun z => by unfold QJ at z; omega)).1
  have a18 : mI m' 8 0 18 = mI m 8 0 18 := (h1 8 0 18 (fun z => by unfold QJ at z; omega)).1
  have a30 : mI m' 8 0 30 = mI m 8 0 30 := (h1 8 0 30 (fun z => by unfold QJ at z; omega)).1
  have a38 : mI m' 8 0 38 = mI m 8 0 38 := (h1 8 0 38 (fun z => by unfold QJ at z; omega)).1
  have a41 : mI m' 8 0 41 = mI m 8 0 41 := (h1 8 0 41 (fun z => by unfold QJ at z; omega)).1
  have a42 : mI m' 8 0 42 = mI m 8 0 42 := (h1 8 0 42 (fun z => by unfold QJ at z; omega)).1
  have a43 : mI m' 8 0 43 = mI m 8 0 43 := (h1 8 0 43 (fun z => by unfold QJ at z; omega)).1
  have a44 : mI m' 8 0 44 = mI m 8 0 44 := (h1 8 0 44 (fun z => by unfold QJ at z; omega)).1
  have i19 : ∀ n k, mI m' 19 n k = mI m 19 n k := fun n k => (h1 19 n k (fun z => by unfold QJ at z; omega)).1
  have i20 : ∀ n k, mI m' 20 n k = mI m 20 n k := fun n k => (h1 20 n k (fun z => by unfold QJ at z; omega)).1
  have i21 : ∀ n k, mI m' 21 n k = mI m 21 n k := fun n k => (h1 21 n k (fun z => by unfold QJ at z; omega)).1
  have i22 : ∀ n k, mI m' 22 n k = mI m 22 n k := fun n k => (h1 22 n k (fun z => by unfold QJ at z; omega)).1
  have i23 : ∀ n k, mI m' 23 n k = mI m 23 n k := fun n k => (h1 23 n k (fun z => by unfold QJ at z; omega)).1
  have i24 : ∀ n k, mI m' 24 n k = mI m 24 n k := fun n k => (h1 24 n k (fun z => by unfold QJ at z; omega)).1
  have i25 : ∀ n k, mI m' 25 n k = mI m 25 n k := fun n k => (h1 25 n k (fun z => by unfold QJ at z; omega)).1
  have i26 : ∀ n k, mI m' 26 n k = mI m 26 n k := fun n k => (h1 26 n k (fun z => by unfold QJ at z; omega)).1
  have i27 : ∀ n k, mI m' 27 n k = mI m 27 n k := fun n k => (h1 27 n k (fun z => by unfold QJ at z; omega)).1
  have i28 : ∀ n k, mI m' 28 n k = mI m 28 n k := fun n k => (h1 28 n k (fun z => by unfold QJ at z; omega)).1
  have i29 : ∀ n k, mI m' 29 n k = mI m 29 n k := fun n k => (h1 29 n k (fun z => by unfold QJ at z; omega)).1
  have i30 : ∀ n k, mI m' 30 n k = mI m 30 n k := fun n k => (h1 30 n k (fun z => by unfold QJ at z; omega)).1
  have i31 : ∀ n k, mI m' 31 n k = mI m 31 n k := fun n k => (h1 31 n k (fun z => by unfold QJ at z; omega)).1
  have i32 : ∀ n k, mI m' 32 n k = mI m 32 n k := fun n k => (h1 32 n k (fun z => by unfold QJ at z; omega)).1
  have i33 : ∀ n k, mI m' 33 n k = mI m 33 n k := fun n k => (h1 33 n k (fun z => by unfold QJ at z; omega)).1
  have i34 : ∀ n k, mI m' 34 n k = mI m 34 n k := fun n k => (h1 34 n k (fun z => by unfold QJ at z; omega)).1
  have i35 : ∀ n k, mI m' 35 n k = mI m 35 n k := fun n k => (h1 35 n k (fun z => by unfold QJ at z; omega)).1
  have i36 : ∀ n k, mI m' 36 n k = mI m 36 n k := fun n k => (h1 36 n k (fun z => by unfold QJ at z; omega)).1
  have i37 : ∀ n k, mI m' 37 n k = mI m 37 n k := fun n k => (h1 37 n k (fun z => by unfold QJ at z; omega)).1
  have i38 : ∀ n k, mI m' 38 n k = mI m 38 n k := fun n k => (h1 38 n k (fun z => by unfold QJ at z; omega)).1
  have i39 : ∀ n k, mI m' 39 n k = mI m 39 n k := fun n k => (h1 39 n k (fun z => by unfold QJ at z; omega)).1
  have i40 : ∀ n k, mI m' 40 n k = mI m 40 n k := fun n k => (h1 40 n k (fun z => by unfold QJ at z; omega)).1
  have i41 : ∀ n k, mI m' 41 n k = mI m 41 n k := fun n k => (h1 41 n k (fun z => by unfold QJ at z; omega)).1
  have i42 : ∀ n k, mI m' 42 n k = mI m 42 n k := fun n k => (h1 42 n k (fun z => by unfold QJ at z; omega)).1
  have i43 : ∀ n k, mI m' 43 n k = mI m 43 n k := fun n k => (h1 43 n k (fun z => by unfold QJ at z; omega)).1
  have i44 : ∀ n k, mI m' 44 n k = mI m 44 n k := fun n k => (h1 44 n k (fun z => by unfold QJ at z; omega)).1
  have i45 : ∀ n k, mI m' 45 n k = mI m 45 n k := fun n k => (h1 45 n k (fun z => by unfold QJ at z; omega)).1
  have i46 : ∀ n k, mI m' 46 n k = mI m 46 n k := fun n k => (h1 46 n k (fun z => by unfold QJ at z; omega)).1
  have i47 : ∀ n k, mI m' 47 n k = mI m 47 n k := fun n k => (h1 47 n k (fun z => by unfold QJ at z; omega)).1
  have i48 : ∀ n k, mI m' 48 n k = mI m 48 n k := fun n k => (h1 48 n k (fun z => by unfold QJ at z; omega)).1
  have i49 : ∀ n k, mI m' 49 n k = mI m 49 n k := fun n k => (h1 49 n k (fun z => by unfold QJ at z; omega)).1
  have i50 : ∀ n k, mI m' 50 n k = mI m 50 n k := fun n k => (h1 50 n k (fun z => by unfold QJ at z; omega)).1
  have i51 : ∀ n k, mI m' 51 n k = mI m 51 n k := fun n k => (h1 51 n k (fun z => by unfold QJ at z; omega)).1
  have l30 : ∀ n k, mL m' 30 n k = mL m 30 n k := fun n k => (h1 30 n k (fun z => by unfold QJ at z; omega)).2
  have l42 : ∀ n k, mL m' 42 n k = mL m 42 n k := fun n k => (h1 42 n k (fun z => by unfold QJ at z; omega)).2
  have l51 : ∀ n k, mL m' 51 n k = mL m 51 n k := fun n k => (h1 51 n k (fun z => by unfold QJ at z; omega)).2
  unfold RR RRp RRq RRl RRk RRa RRm RRc RRb BGo RR1 RR2 RR3 FX FN at h ⊢
  simp only [a0, a1, a14, a16, a17, a18, a30, a38, a41, a42, a43, a44, i19, i20, i21, i22, i23, i24, i25, i26, i27, i28, i29, i30, i31, i32, i33, i34, i35, i36, i37, i38, i39, i40, i41, i42, i43, i44, i45, i46, i47, i48, i49, i50, i51, l30, l42, l51, h2, h4]
  exact h
theorem RR_J {s : ST} {m : MM} {P : MM → Prop} (h : RR s m) (e : ∃ m', P m' ∧ fs QJ m m') : ∃ m', P m' ∧ RR s m' ∧ fs QW m m' := by
  obtain ⟨m', e1, e2⟩ := e
  exact ⟨m', e1, RR_QJ h e2, fs_le e2 (fun r k z => Or.inl z.1)⟩
def CALL (y1 y2 : Nat) (l1 l2 : LV) (x : AV) (m : MM) (s' : ST) : Prop := ∃ m1 m2, go y1 0 l1 [] m = some (some x, m1) ∧ go y2 0 l2 [] m1 = some (some x, m2) ∧ BO s' m2 ∧ fb m m1 ∧ fb m m2
theorem both2 {s s' : ST} {m : MM} {y1 y2 : Nat} {l1 l2 : LV} {x : AV} (h : BO s m) (h1 : ∀ m, RC s m → ∃ m', go y1 0 l1 [] m = some (some x, m') ∧ RC s' m' ∧ fg QZ m m') (h2 : ∀ m, RR s m → ∃ m', go y2 0 l2 [] m = some (some x, m') ∧ RR s' m' ∧ fs QW m m') : CALL y1 y2 l1 l2 x m s' := by
  obtain ⟨m1, a1, a2, a3⟩ := h1 m h.1
  obtain ⟨m2, b1, b2, b3⟩ := h2 m1 (RR_fg h.2 a3)
  exact ⟨m1, m2, a1, b1, ⟨RC_fs a2 b3, b2⟩, fb_fg a3, fb_tr (fb_fg a3) (fb_fs b3)⟩
def SCR (xs : Nat → Int32) (L : Nat) (m : MM) : Prop := mN m 0 0 = L ∧ ∀ k, mI m 0 0 k = xs k
theorem scr_fb {xs : Nat → Int32} {L : Nat} {m m1 : MM} (S : SCR xs L m) (h : fb m m1) : SCR xs L m1 := ⟨(h.2.1 0).trans S.1, fun k => (h.1 0 k).trans (S.2 k)⟩
theorem scr_ix {xs : Nat → Int32} {L i j : Nat} {m : MM} (S : SCR xs L m) (hL : L ≤ 2560) (h : i + j < L) : ix (nI (i + j)) (mN m 0 0) = some (i + j) ∧ mI m 0 0 (i + j) = xs (i + j) := ⟨ix_nI (by rw [S.1]; exact h) (by rw [S.1]; omega), S.2 _⟩
theorem iN1 (i : Nat) : nI i + 1 = nI (i + 1) := nI_1 i
theorem iN2 (i : Nat) : nI i + 2 = nI (i + 2) := by
  rw [show (2 : Int32) = 1 + 1 from rfl, ← Int32.add_assoc, nI_1, nI_1]
theorem iN3 (i : Nat) : nI i + 3 = nI (i + 3) := by
  rw [show (3 : Int32) = 2 + 1 from rfl, ← Int32.add_assoc, iN2, nI_1]
theorem iN4 (i : Nat) : nI i + 4 = nI (i + 4) := by
  rw [show (4 : Int32) = 3 + 1 from rfl, ← Int32.add_assoc, iN3, nI_1]
theorem iN5 (i : Nat) : nI i + 5 = nI (i + 5) := by
  rw [show (5 : Int32) = 4 + 1 from rfl, ← Int32.add_assoc, iN4, nI_1]
theorem lgc (x : Int64) : lg_cmp x x = 0 := by
  unfold lg_cmp
  simp
def OUTC (t i pc : Nat) (m : MM) : Prop := ∃ m2 s2, go 169 pc [some (vr 0 (some 0)), some (vr 7 (some 0)), some (vr 8 (some 0)), some (vi (nI i))] [] m = go 169 1063 [some (vr 0 (some 0)), some (vr 7 (some 0)), some (vr 8 (some 0)), some (vi (nI i))] [] m2 ∧ BO s2 m2 ∧ INV (t + 1000) s2 ∧ fb m m2
