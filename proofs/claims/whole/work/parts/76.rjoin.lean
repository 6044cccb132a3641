/-! the reference: remove, comesJoin -/
theorem ins_comm (k1 k2 : Int32) (v1 v2 : Int64) (hne : k1 < k2) : ∀ L : PRS, ins (ins L k1 v1) k2 v2 = ins (ins L k2 v2) k1 v1
  | [] => by
    have n1 : ¬ k2 < k1 := fun z => by
      have := Int32.lt_iff_toInt_lt.mp z
      have := Int32.lt_iff_toInt_lt.mp hne
      omega
    have n2 : ¬ k2 = k1 := fun z => by
      have := Int32.lt_iff_toInt_lt.mp hne
      rw [z] at this
      omega
    simp [ins, hne, n1, n2]
  | q :: r => by
    have hlt := Int32.lt_iff_toInt_lt.mp hne
    have n1 : ¬ k2 < k1 := fun z => by
      have := Int32.lt_iff_toInt_lt.mp z
      omega
    have n2 : ¬ k2 = k1 := fun z => by rw [z] at hlt; omega
    have ih := ins_comm k1 k2 v1 v2 hne r
    by_cases a : q.1 < k1
    · have a2 : q.1 < k2 := by
        have := Int32.lt_iff_toInt_lt.mp a
        exact Int32.lt_iff_toInt_lt.mpr (by omega)
      simp only [ins, a, a2, if_true]
      rw [ih]
    · by_cases b : q.1 = k1
      · have a2 : q.1 < k2 := by rw [b]; exact hne
        simp [ins, a, b, hne]
      · have ha : k1.toInt < q.1.toInt := by
          have h1 := Int32.le_iff_toInt_le.mp (i_nlt.mp a)
          have h2 : q.1.toInt ≠ k1.toInt := fun z => b (Int32.toInt_inj.mp z)
          omega
        simp only [ins, a, b, if_false, hne, if_true]
        by_cases c : q.1 < k2
        · simp only [c, if_true, ins, a, b, if_false]
        · by_cases d : q.1 = k2
          · have kk : ¬ k2 < k2 := by rw [d] at c; exact c
            simp only [d, kk, if_false, if_true, ins, n1, n2]
          · simp only [c, d, if_false, ins, n1, n2]
theorem ins_comm' {k1 k2 : Int32} (v1 v2 : Int64) (hne : k1 ≠ k2) (L : PRS) : ins (ins L k1 v1) k2 v2 = ins (ins L k2 v2) k1 v1 := by
  by_cases h : k1 < k2
  · exact ins_comm k1 k2 v1 v2 h L
  · have h2 : k2 < k1 := by
      have h1 := Int32.le_iff_toInt_le.mp (i_nlt.mp h)
      have h3 : k1.toInt ≠ k2.toInt := fun z => hne (Int32.toInt_inj.mp z)
      exact Int32.lt_iff_toInt_lt.mpr (by omega)
    exact (ins_comm k2 k1 v2 v1 h2 L).symm
theorem inl1_last {q : Int32 × Int64} : ∀ (X M : PRS), (∀ x ∈ X, x.1 ≠ q.1) → inl1 (ins M q.1 q.2) X = ins (inl1 M X) q.1 q.2
  | [], M, _ => rfl
  | x :: X, M, h => by
    show inl1 (ins (ins M q.1 q.2) x.1 x.2) X = ins (inl1 (ins M x.1 x.2) X) q.1 q.2
    rw [ins_comm' q.2 x.2 (fun z => h x (List.mem_cons_self ..) z.symm) M]
    exact inl1_last X (ins M x.1 x.2) (fun y hy => h y (List.mem_cons_of_mem _ hy))
theorem inl1_app (A B M : PRS) : inl1 M (A ++ B) = inl1 (inl1 M A) B := by
  unfold inl1
  rw [List.foldl_append]
theorem inl1_rev : ∀ (X M : PRS), srt X → inl1 M X.reverse = inl1 M X
  | [], _, _ => rfl
  | q :: X, M, h => by
    obtain ⟨h1, h2⟩ := List.pairwise_cons.mp h
    rw [List.reverse_cons, inl1_app, inl1_rev X M h2]
    show ins (inl1 M X) q.1 q.2 = inl1 (ins M q.1 q.2) X
    rw [inl1_last X M (fun x hx z => by
      have := Int32.lt_iff_toInt_lt.mp (h1 x hx)
      rw [z] at this
      omega)]
def rm1 (m : MM) (p j : Nat) : MM := sL (sI m 29 0 (16 * p + j) (mI m 29 0 (16 * p + j + 1))) 30 0 (16 * p + j) (mL m 30 0 (16 * p + j + 1))
def rmM (m : MM) (p : Nat) : Nat → Nat → MM
  | 0, _ => m
  | d + 1, j => rmM (rm1 m p j) p d (j + 1)
theorem rmM_get (p : Nat) : ∀ d j (m : MM), j + d + 1 ≤ 16 → (∀ k, mI (rmM m p d j) 29 0 k = if 16 * p + j ≤ k ∧ k < 16 * p + j + d then mI m 29 0 (k + 1) else mI m 29 0 k) ∧ (∀ k, mL (rmM m p d j) 30 0 k = if 16 * p + j ≤ k ∧ k < 16 * p + j + d then mL m 30 0 (k + 1) else mL m 30 0 k) ∧ fs (fun r k => (r = 29 ∨ r = 30) ∧ 16 * p ≤ k ∧ k < 16 * p + 16) m (rmM m p d j)
  | 0, j, m, _ => ⟨fun k => by rw [if_neg (by omega)]; rfl, fun k => by rw [if_neg (by omega)]; rfl, fs_rf _ _⟩
  | d + 1, j, m, hj => by
    obtain ⟨h1, h2, h3⟩ := rmM_get p d (j + 1) (rm1 m p j) (by omega)
    refine ⟨fun k => ?_, fun k => ?_, fs_tr (fsL (fsI (fs_rf _ m) ⟨Or.inl rfl, by omega, by omega⟩) ⟨Or.inr rfl, by omega, by omega⟩) h3⟩
    · show mI (rmM (rm1 m p j) p d (j + 1)) 29 0 k = _
      rw [h1]
      unfold rm1
      rw [mI_sL, mI_sL, mI_sI, mI_sI]
      by_cases c : 16 * p + (j + 1) ≤ k ∧ k < 16 * p + (j + 1) + d
      · rw [if_pos c, if_neg (by omega), if_pos (by omega)]
      · rw [if_neg c]
        by_cases c2 : k = 16 * p + j
        · rw [if_pos ⟨rfl, rfl, c2⟩, if_pos (by omega), c2]
        · rw [if_neg (by omega), if_neg (by omega)]
    · show mL (rmM (rm1 m p j) p d (j + 1)) 30 0 k = _
      rw [h2]
      unfold rm1
      rw [mL_sL, mL_sL, mL_sI, mL_sI]
      by_cases c : 16 * p + (j + 1) ≤ k ∧ k < 16 * p + (j + 1) + d
      · rw [if_pos c, if_neg (by omega), if_pos (by omega)]
      · rw [if_neg c]
        by_cases c2 : k = 16 * p + j
        · rw [if_pos ⟨rfl, rfl, c2⟩, if_pos (by omega), c2]
        · rw [if_neg (by omega), if_neg (by omega)]
theorem rm_loop {p len : Nat} {a2 : Int32} (hp : p < 32) (hl : len ≤ 16) : ∀ d j (m : MM), j + d + 1 = len → FX m → FN m → mI m 28 0 p = nI len →
    go 117 2 [some (vr 8 (some 0)), some (vi (nI p)), some (vi a2), some (vi (nI j))] [] m = go 117 68 [some (vr 8 (some 0)), some (vi (nI p)), some (vi a2), some (vi (nI (len - 1)))] [] (rmM m p d j) := by
  intro d
  induction d with
  | zero => 
    intro j m hj hx hn h28
    have s1 : nI j + 1 = nI (j + 1) := nI_1 j
    have i28 := ixN (FN_28 hn) (i := p) hp (by decide)
    rw [s117_2]
    simp only [s117_3, s117_4, s117_5, s117_6, s117_9, s117_10, s117_11, eq_self, ixk_some, bd_some, nl_n, nl_i, nl_r, Option.toList_some, Option.toList_none, List.cons_append, List.nil_append, FX_2 hx, FX_3 hx, FX_4 hx, FX_5 hx, FX_6 hx, FX_7 hx, FX_8 hx, FX_9 hx, FX_10 hx, FX_11 hx, FX_12 hx, FX_13 hx, FX_15 hx, FX_19 hx, FX_20 hx, FX_21 hx, FX_22 hx, FX_23 hx, FX_24 hx, FX_25 hx, FX_26 hx, FX_27 hx, FX_28 hx, FX_29 hx, FX_31 hx, FX_32 hx, FX_33 hx, FX_34 hx, FX_35 hx, FX_36 hx, FX_37 hx, FX_39 hx, FX_40 hx, i28, h28, s1]
    rw [if_pos (nI_le (by omega) (by omega)), show len - 1 = j by omega]
    rfl
  | succ d ih => 
    intro j m hj hx hn h28
    have s1 : nI j + 1 = nI (j + 1) := nI_1 j
    have s2 : nI (16 * p + j) + 1 = nI (16 * p + j + 1) := nI_1 _
    have i28 := ixN (FN_28 hn) (i := p) hp (by decide)
    have a29 := ixN (FN_29 hn) (i := 16 * p + j) (by omega) (by decide)
    have b29 := ixN (FN_29 hn) (i := 16 * p + j + 1) (by omega) (by decide)
    have a30 := ixN (FN_30 hn) (i := 16 * p + j) (by omega) (by decide)
    have b30 := ixN (FN_30 hn) (i := 16 * p + j + 1) (by omega) (by decide)
    have := ih (j + 1) (rm1 m p j) (by omega) hx hn h28
    rw [s117_2]
    simp only [s117_3, s117_4, s117_5, s117_6, s117_9, s117_10, s117_11, eq_self, ixk_some, bd_some, nl_n, nl_i, nl_r, Option.toList_some, Option.toList_none, List.cons_append, List.nil_append, FX_2 hx, FX_3 hx, FX_4 hx, FX_5 hx, FX_6 hx, FX_7 hx, FX_8 hx, FX_9 hx, FX_10 hx, FX_11 hx, FX_12 hx, FX_13 hx, FX_15 hx, FX_19 hx, FX_20 hx, FX_21 hx, FX_22 hx, FX_23 hx, FX_24 hx, FX_25 hx, FX_26 hx, FX_27 hx, FX_28 hx, FX_29 hx, FX_31 hx, FX_32 hx, FX_33 hx, FX_34 hx, FX_35 hx, FX_36 hx, FX_37 hx, FX_39 hx, FX_40 hx, i28, h28, s1]
    rw [if_neg (nI_ge (by omega) (by omega))]
    simp only [s117_0, s117_1i, s117_1r, s117_1n, s117_3, s117_4, s117_5, s117_6, s117_9, s117_10, s117_11, s117_14, s117_15, s117_18, s117_20, s117_21, s117_22, s117_23, s117_24, s117_25, s117_28, s117_30, s117_31, s117_32, s117_33, s117_34, s117_35, s117_36, s117_37, s117_38, s117_39, s117_42, s117_44, s117_45, s117_46, s117_47, s117_48, s117_49, s117_52, s117_54, s117_55, s117_56, s117_57, s117_58, s117_59, s117_60, s117_61, s117_62i, s117_62r, s117_62n, s117_65, s117_69, s117_72, s117_73, s117_74, s117_75, s117_76, s117_77, s117_78, eq_self, ixk_some, bd_some, nl_n, nl_i, nl_r, Option.toList_some, Option.toList_none, List.cons_append, List.nil_append, mR_sI, mN_sI, mR_sL, mN_sL, mL_sI, FX_2 hx, FX_3 hx, FX_4 hx, FX_5 hx, FX_6 hx, FX_7 hx, FX_8 hx, FX_9 hx, FX_10 hx, FX_11 hx, FX_12 hx, FX_13 hx, FX_15 hx, FX_19 hx, FX_20 hx, FX_21 hx, FX_22 hx, FX_23 hx, FX_24 hx, FX_25 hx, FX_26 hx, FX_27 hx, FX_28 hx, FX_29 hx, FX_31 hx, FX_32 hx, FX_33 hx, FX_34 hx, FX_35 hx, FX_36 hx, FX_37 hx, FX_39 hx, FX_40 hx, fl16, s1, s2, a29, b29, a30, b30]
    exact this
theorem rr_remove {m : MM} {p k : Nat} {L : PRS} (hx : FX m) (hn : FN m) (hp : p < 32) (h : RRl m p L) (hk : k < L.length) : ∃ m', go 117 0 [some (vr 8 (some 0)), some (vi (nI p)), some (vi (nI k)), none] [] m = some (none, m') ∧ RRl m' p (L.eraseIdx k) ∧ fs (QB p) m m' := by
  obtain ⟨k1, k2, k3⟩ := h
  obtain ⟨d, hd⟩ : ∃ d, k + d + 1 = L.length := ⟨L.length - k - 1, by omega⟩
  obtain ⟨g1, g2, g3⟩ := rmM_get p d k m (by omega)
  have lo := rm_loop (a2 := nI k) hp k1 d k m hd hx hn k2
  have i28 := ixN (FN_28 hn) (i := p) hp (by decide)
  have e28 : mI (rmM m p d k) 28 0 p = nI L.length := by rw [(g3.1 28 0 p (by omega)).1]; exact k2
  have sp : nI L.length - 1 = nI (L.length - 1) := by
    have := nI_pred (L.length - 1)
    rw [show L.length - 1 + 1 = L.length by omega] at this
    exact this
  have hlen : (L.eraseIdx k).length = L.length - 1 := by
    rw [List.length_eraseIdx, if_pos hk]
  refine ⟨sI (rmM m p d k) 28 0 p (nI (L.length - 1)), ?_, ⟨by rw [hlen]; omega, by rw [hlen, mI_sI, if_pos ⟨rfl, rfl, rfl⟩], fun j q hj => ?_⟩, fsI (fs_le g3 (fun r k z => Or.inr z)) (Or.inl ⟨rfl, rfl⟩)⟩
  · have st : go 117 0 [some (vr 8 (some 0)), some (vi (nI p)), some (vi (nI k)), none] [] m = go 117 2 [some (vr 8 (some 0)), some (vi (nI p)), some (vi (nI k)), some (vi (nI k))] [] m := by
      simp only [s117_0, s117_1i, s117_1r, s117_1n, eq_self, ixk_some, bd_some, nl_n, nl_i, nl_r, Option.toList_some, Option.toList_none, List.cons_append, List.nil_append]
    rw [st, lo]
    simp only [s117_68, s117_69, s117_72, s117_73, s117_74, s117_75, s117_76, s117_77, s117_78, eq_self, ixk_some, bd_some, nl_n, nl_i, nl_r, Option.toList_some, Option.toList_none, List.cons_append, List.nil_append, g3.2.1, g3.2.2.2.1, FX_2 hx, FX_3 hx, FX_4 hx, FX_5 hx, FX_6 hx, FX_7 hx, FX_8 hx, FX_9 hx, FX_10 hx, FX_11 hx, FX_12 hx, FX_13 hx, FX_15 hx, FX_19 hx, FX_20 hx, FX_21 hx, FX_22 hx, FX_23 hx, FX_24 hx, FX_25 hx, FX_26 hx, FX_27 hx, FX_28 hx, FX_29 hx, FX_31 hx, FX_32 hx, FX_33 hx, FX_34 hx, FX_35 hx, FX_36 hx, FX_37 hx, FX_39 hx, FX_40 hx, i28, e28, sp]
  · rw [mI_ne (by omega), mL_sI, g1, g2]
    rw [List.getElem?_eraseIdx] at hj
    by_cases hjk : j < k
    · rw [if_pos hjk] at hj
      rw [if_neg (by omega), if_neg (by omega)]
      exact k3 j q hj
    · rw [if_neg hjk] at hj
      have hj2 := (List.getElem?_eq_some_iff.mp hj).1
      rw [if_pos (by omega), if_pos (by omega)]
      exact k3 (j + 1) q hj
def QT (w : Nat) : Nat → Nat → Prop := fun r k => QB w r k ∨ r = 50 ∨ r = 51 ∨ (r = 8 ∧ k = 38)
theorem BGo_add {m : MM} {B : PRS} {q : Int32 × Int64} (h : BGo B m) (hl : B.length < 16) : BGo (B ++ [q]) (sI (sL (sI m 50 0 B.length q.1) 51 0 B.length q.2) 8 0 38 (nI (B.length + 1))) := by
  obtain ⟨h1, h2, h3⟩ := h
  refine ⟨by simp; omega, by rw [mI_sI, if_pos ⟨rfl, rfl, rfl⟩]; simp, fun j x hj => ?_⟩
  rw [mI_ne (by omega), mI_sL, mL_sI, mI_sI, mL_sL]
  by_cases hi : j < B.length
  · rw [List.getElem?_append_left hi] at hj
    rw [if_neg (by omega), if_neg (by omega)]
    exact h3 j x hj
  · rw [List.getElem?_append_right (by omega)] at hj
    by_cases h9 : j - B.length = 0
    · rw [h9] at hj
      have : q = x := by simpa using hj
      rw [if_pos ⟨rfl, rfl, by omega⟩, if_pos ⟨rfl, rfl, by omega⟩, this]
      exact ⟨rfl, rfl⟩
    · rw [List.getElem?_eq_none (by simp; omega)] at hj
      cases hj
theorem sub_m1 (x : Int32) : x - 1 = x + (-1) := by
  rw [Int32.sub_eq_add_neg]
theorem er_app {A K : PRS} {q : Int32 × Int64} : ((A ++ [q]) ++ K).eraseIdx A.length = A ++ K := by
  rw [List.append_assoc, List.eraseIdx_append_of_length_le (Nat.le_refl _), Nat.sub_self]
  rfl
/-- which pairs go -/
def goes (b : Bool) (x y : Int32) (q : Int32 × Int64) : Bool := if b = true then decide (x ≤ q.1) else decide (q.1 < y)
theorem jn_loop {w u : Nat} {b : Bool} {x y a3 : Int32} {L : PRS} (hw : w < 32) (hu : u < 32) : ∀ k (m : MM) (K B : PRS) (a6 : Option AV), k ≤ L.length → FX m → FN m → mI m 19 0 u = x → mI m 19 0 w = y → RRl m w (L.take k ++ K) → BGo B m → B.length + k ≤ 16 →
    ∃ m', (∀ z, (∀ a5 a6, go 128 175 [some (vr 8 (some 0)), some (vi (nI w)), some (vi (nI u)), some (vi a3), some (vi (b2 b)), some (vi a5), a6] [] m' = z) → go 128 71 [some (vr 8 (some 0)), some (vi (nI w)), some (vi (nI u)), some (vi a3), some (vi (b2 b)), some (vi (nI k + (-1))), a6] [] m = z) ∧ RRl m' w ((L.take k).filter (fun q => !goes b x y q) ++ K) ∧ BGo (B ++ ((L.take k).filter (goes b x y)).reverse) m' ∧ fs (QT w) m m' := by
  intro k
  induction k with
  | zero => 
    intro m K B a6 hk hx hn h1 h2 h3 h4 h5
    refine ⟨m, fun z hz => ?_, h3, by simpa using h4, fs_rf _ _⟩
    rw [s128_71]
    simp only [s128_73, eq_self, ixk_some, bd_some, nl_n, nl_i, nl_r, Option.toList_some, Option.toList_none, List.cons_append, List.nil_append]
    rw [if_pos m1_neg]
    exact hz _ _
  | succ k ih => 
    intro m K B a6 hk hx hn h1 h2 h3 h4 h5
    have hkl : k < L.length := by omega
    have tk : L.take (k + 1) = L.take k ++ [L[k]] := List.take_succ_eq_append_getElem hkl
    have tl : (L.take k).length = k := by rw [List.length_take]; omega
    have gk : (L.take (k + 1) ++ K)[k]? = some L[k] := by
      rw [tk, List.append_assoc, List.getElem?_append_right (by omega), tl, Nat.sub_self]
      rfl
    generalize L[k] = q at *
    obtain ⟨r1, r2, r3⟩ := h3
    obtain ⟨q1, q2⟩ := r3 k q gk
    have rl : (L.take (k + 1) ++ K).length = k + 1 + K.length := by
      rw [List.length_append, List.length_take]
      omega
    have i29 := ixN (FN_29 hn) (i := 16 * w + k) (by omega) (by decide)
    have iu := ixN (FN_19 hn) (i := u) hu (by decide)
    have iw := ixN (FN_19 hn) (i := w) hw (by decide)
    have start : ∀ z, go 128 90 [some (vr 8 (some 0)), some (vi (nI w)), some (vi (nI u)), some (vi a3), some (vi (b2 b)), some (vi (nI k)), some (vi q.1)] [] m = z → go 128 71 [some (vr 8 (some 0)), some (vi (nI w)), some (vi (nI u)), some (vi a3), some (vi (b2 b)), some (vi (nI (k + 1) + (-1))), a6] [] m = z := by
      intro z hz
      rw [← hz, s128_71]
      simp only [s128_73, eq_self, ixk_some, bd_some, nl_n, nl_i, nl_r, Option.toList_some, Option.toList_none, List.cons_append, List.nil_append, pk_m1]
      rw [if_neg (nI_pos (by omega))]
      simp only [s128_76, s128_77, s128_80, s128_82, s128_83, s128_84, s128_86, s128_87, s128_88i, s128_88r, s128_88n, eq_self, ixk_some, bd_some, nl_n, nl_i, nl_r, Option.toList_some, Option.toList_none, List.cons_append, List.nil_append, FX_2 hx, FX_3 hx, FX_4 hx, FX_5 hx, FX_6 hx, FX_7 hx, FX_8 hx, FX_9 hx, FX_10 hx, FX_11 hx, FX_12 hx, FX_13 hx, FX_15 hx, FX_19 hx, FX_20 hx, FX_21 hx, FX_22 hx, FX_23 hx, FX_24 hx, FX_25 hx, FX_26 hx, FX_27 hx, FX_28 hx, FX_29 hx, FX_31 hx, FX_32 hx, FX_33 hx, FX_34 hx, FX_35 hx, FX_36 hx, FX_37 hx, FX_39 hx, FX_40 hx, fl16, i29, q1]
    cases hg : goes b x y q
    · -- it stays
      obtain ⟨m', z1, z2, z3, z4⟩ := ih m (q :: K) B (some (vi q.1)) (by omega) hx hn h1 h2 (by
        rw [tk, List.append_assoc] at r3 rl r2 r1
        exact ⟨r1, r2, r3⟩) h4 (by omega)
      refine ⟨m', fun z hz => start _ ?_, ?_, ?_, z4⟩
      · have := z1 z hz
        rw [← this]
        cases b
        · have : ¬ q.1 < y := fun e => by simp [goes, e] at hg
          have := i_nlt.mp this
          simp [s128_90, s128_92, s128_109, s128_111, s128_112, s128_115, s128_116, s128_117, s128_169i, s128_169r, s128_169n, s128_172, eq_self, ixk_some, bd_some, nl_n, nl_i, nl_r, Option.toList_some, Option.toList_none, List.cons_append, List.nil_append, FX_2 hx, FX_3 hx, FX_4 hx, FX_5 hx, FX_6 hx, FX_7 hx, FX_8 hx, FX_9 hx, FX_10 hx, FX_11 hx, FX_12 hx, FX_13 hx, FX_15 hx, FX_19 hx, FX_20 hx, FX_21 hx, FX_22 hx, FX_23 hx, FX_24 hx, FX_25 hx, FX_26 hx, FX_27 hx, FX_28 hx, FX_29 hx, FX_31 hx, FX_32 hx, FX_33 hx, FX_34 hx, FX_35 hx, FX_36 hx, FX_37 hx, FX_39 hx, FX_40 hx, iw, h2, b2, this]
        · have : ¬ x ≤ q.1 := fun e => by simp [goes, e] at hg
          have := i_nle.mp this
          simp [s128_90, s128_92, s128_95, s128_97, s128_98, s128_101, s128_102, s128_103, s128_169i, s128_169r, s128_169n, s128_172, eq_self, ixk_some, bd_some, nl_n, nl_i, nl_r, Option.toList_some, Option.toList_none, List.cons_append, List.nil_append, FX_2 hx, FX_3 hx, FX_4 hx, FX_5 hx, FX_6 hx, FX_7 hx, FX_8 hx, FX_9 hx, FX_10 hx, FX_11 hx, FX_12 hx, FX_13 hx, FX_15 hx, FX_19 hx, FX_20 hx, FX_21 hx, FX_22 hx, FX_23 hx, FX_24 hx, FX_25 hx, FX_26 hx, FX_27 hx, FX_28 hx, FX_29 hx, FX_31 hx, FX_32 hx, FX_33 hx, FX_34 hx, FX_35 hx, FX_36 hx, FX_37 hx, FX_39 hx, FX_40 hx, iu, h1, b2, this]
      · rw [tk, List.filter_append]
        simp only [List.filter_cons, hg, Bool.not_false, if_true, List.filter_nil]
        rw [List.append_assoc]
        exact z2
      · rw [tk, List.filter_append]
        simp only [List.filter_cons, hg, Bool.false_eq_true, if_false, List.filter_nil, List.append_nil]
        exact z3
    · -- it goes
      have i50 := ixN (FN_50 hn) (i := B.length) (by omega) (by decide)
      have i51 := ixN (FN_51 hn) (i := B.length) (by omega) (by decide)
      have i30 := ixN (FN_30 hn) (i := 16 * w + k) (by omega) (by decide)
      have b38 := h4.2.1
      have s1 : nI B.length + 1 = nI (B.length + 1) := nI_1 _
      have B1 := BGo_add (q := q) h4 (by omega)
      have F1 : fs (fun r k => r = 50 ∨ r = 51 ∨ (r = 8 ∧ k = 38)) m (sI (sL (sI m 50 0 B.length q.1) 51 0 B.length q.2) 8 0 38 (nI (B.length + 1))) := fsI (fsL (fsI (fs_rf _ m) (Or.inl rfl)) (Or.inr (Or.inl rfl))) (Or.inr (Or.inr ⟨rfl, rfl⟩))
      have L1 : RRl (sI (sL (sI m 50 0 B.length q.1) 51 0 B.length q.2) 8 0 38 (nI (B.length + 1))) w (L.take (k + 1) ++ K) := RRl_fs ⟨r1, r2, r3⟩ F1 (fun r k z => by omega)
      obtain ⟨m2, d1, d2, d3⟩ := rr_remove (k := k) (FX_fs hx F1) (FN_fs hn F1) hw L1 (by omega)
      have er : (L.take (k + 1) ++ K).eraseIdx k = L.take k ++ K := by
        rw [tk]
        have := er_app (A := L.take k) (K := K) (q := q)
        rw [tl] at this
        exact this
      rw [er] at d2
      have F2 := fs_tr (fs_le F1 (fun r k z => (show QT w r k from Or.inr z))) (fs_le d3 (fun r k z => (show QT w r k from Or.inl z)))
      have n19 : ∀ j, ¬ QT w 19 j := fun j z => by unfold QT QB at z; omega
      obtain ⟨m', z1, z2, z3, z4⟩ := ih m2 K (B ++ [q]) (some (vi q.1)) (by omega) (FX_fs hx F2) (FN_fs hn F2) (by rw [(F2.1 19 0 u (n19 u)).1]; exact h1) (by rw [(F2.1 19 0 w (n19 w)).1]; exact h2) d2 (BGo_fs B1 d3 (fun r k z => by unfold QB at z; omega)) (by simp; omega)
      refine ⟨m', fun z hz => start _ ?_, ?_, ?_, fs_tr F2 z4⟩
      · have := z1 z hz
        rw [← this]
        have to120 : go 128 90 [some (vr 8 (some 0)), some (vi (nI w)), some (vi (nI u)), some (vi a3), some (vi (b2 b)), some (vi (nI k)), some (vi q.1)] [] m = go 128 120 [some (vr 8 (some 0)), some (vi (nI w)), some (vi (nI u)), some (vi a3), some (vi (b2 b)), some (vi (nI k)), some (vi q.1)] [] m := by
          cases b
          · have : q.1 < y := by
              unfold goes at hg
              simpa using hg
            have := i_nle.mpr this
            simp [s128_90, s128_92, s128_109, s128_111, s128_112, s128_115, s128_116, s128_117, eq_self, ixk_some, bd_some, nl_n, nl_i, nl_r, Option.toList_some, Option.toList_none, List.cons_append, List.nil_append, FX_2 hx, FX_3 hx, FX_4 hx, FX_5 hx, FX_6 hx, FX_7 hx, FX_8 hx, FX_9 hx, FX_10 hx, FX_11 hx, FX_12 hx, FX_13 hx, FX_15 hx, FX_19 hx, FX_20 hx, FX_21 hx, FX_22 hx, FX_23 hx, FX_24 hx, FX_25 hx, FX_26 hx, FX_27 hx, FX_28 hx, FX_29 hx, FX_31 hx, FX_32 hx, FX_33 hx, FX_34 hx, FX_35 hx, FX_36 hx, FX_37 hx, FX_39 hx, FX_40 hx, iw, h2, b2, this]
          · have : x ≤ q.1 := by
              unfold goes at hg
              simpa using hg
            have := i_nlt.mpr this
            simp [s128_90, s128_92, s128_95, s128_97, s128_98, s128_101, s128_102, s128_103, s128_106, eq_self, ixk_some, bd_some, nl_n, nl_i, nl_r, Option.toList_some, Option.toList_none, List.cons_append, List.nil_append, FX_2 hx, FX_3 hx, FX_4 hx, FX_5 hx, FX_6 hx, FX_7 hx, FX_8 hx, FX_9 hx, FX_10 hx, FX_11 hx, FX_12 hx, FX_13 hx, FX_15 hx, FX_19 hx, FX_20 hx, FX_21 hx, FX_22 hx, FX_23 hx, FX_24 hx, FX_25 hx, FX_26 hx, FX_27 hx, FX_28 hx, FX_29 hx, FX_31 hx, FX_32 hx, FX_33 hx, FX_34 hx, FX_35 hx, FX_36 hx, FX_37 hx, FX_39 hx, FX_40 hx, iu, h1, b2, this]
        rw [to120]
        have e1 : mI (sI m 50 0 B.length q.1) 8 0 38 = nI B.length := b38
        have e2 : mI (sL (sI m 50 0 B.length q.1) 51 0 B.length q.2) 8 0 38 = nI B.length := b38
        have e3 : mL (sI m 50 0 B.length q.1) 30 0 (16 * w + k) = q.2 := q2
        simp only [s128_120, s128_121, s128_124, s128_125, s128_128, s128_130, s128_131, s128_132, s128_135, s128_136, s128_139, s128_140, s128_143, s128_145, s128_146, s128_147, s128_149, s128_150, s128_151, s128_152, s128_153, s128_154, s128_157, s128_158, s128_159, s128_162, s128_163, s128_164, s128_166, s128_169i, s128_169r, s128_169n, s128_172, eq_self, ixk_some, bd_some, nl_n, nl_i, nl_r, Option.toList_some, Option.toList_none, List.cons_append, List.nil_append, mR_sI, mN_sI, mR_sL, mN_sL, FX_2 hx, FX_3 hx, FX_4 hx, FX_5 hx, FX_6 hx, FX_7 hx, FX_8 hx, FX_9 hx, FX_10 hx, FX_11 hx, FX_12 hx, FX_13 hx, FX_15 hx, FX_19 hx, FX_20 hx, FX_21 hx, FX_22 hx, FX_23 hx, FX_24 hx, FX_25 hx, FX_26 hx, FX_27 hx, FX_28 hx, FX_29 hx, FX_31 hx, FX_32 hx, FX_33 hx, FX_34 hx, FX_35 hx, FX_36 hx, FX_37 hx, FX_39 hx, FX_40 hx, b38, i50, e1, i51, fl16, i30, e3, e2, s1, d1]
      · rw [tk, List.filter_append]
        simp only [List.filter_cons, hg, Bool.not_true, Bool.false_eq_true, if_false, List.filter_nil, List.append_nil]
        exact z2
      · rw [tk, List.filter_append]
        simp only [List.filter_cons, hg, if_true, List.filter_nil, List.reverse_append, List.reverse_cons, List.reverse_nil, List.nil_append]
        rw [← List.append_assoc]
        exact z3
/-- the bag was filled anew -/
theorem RR_bag {s : ST} {m m' : MM} {w : Nat} {A X : PRS} (h : RR s m) (h1 : RRl m' w A) (hf : fs (QT w) m m') (hno : ∀ g, g ∈ c_ms s → ¬ (g_so g = 6 ∨ g_so g = 10)) : RR (c_bg_ (c_pr_ s (up1 (c_pr s) w A)) X) m' := by
  have q : ∀ r k, QT w r k → r = 28 ∨ r = 29 ∨ r = 30 ∨ r = 50 ∨ r = 51 ∨ (r = 8 ∧ k = 38) := fun r k z => by unfold QT QB at z; omega
  refine ⟨RRp_fs h.1 hf (fun r j z => by have := q r j z; omega), ?_, RRk_fs h.2.2.1 hf (fun r j z => by have := q r j z; omega), RRa_fs h.2.2.2.1 hf (fun r j z => by have := q r j z; omega), RRm_fs h.2.2.2.2.1 hf (fun r j z => by have := q r j z; omega), RRc_fs h.2.2.2.2.2.1 hf (fun r j z => by have := q r j z; omega), fun ⟨g, a, b⟩ => absurd b (hno g a)⟩
  intro i hi
  have hi : i < c_n s := hi
  show RRl m' i (up1 (c_pr s) w A i)
  by_cases e : i = w
  · subst e
    rw [up1_get]; exact h1
  · rw [show up1 (c_pr s) w A i = c_pr s i from if_neg e]
    obtain ⟨k1, k2, k3⟩ := h.2.1 i hi
    have n : ∀ r k, ¬ QT w r k → mI m' r 0 k = mI m r 0 k ∧ mL m' r 0 k = mL m r 0 k := fun r k z => hf.1 r 0 k z
    refine ⟨k1, by rw [(n 28 i (fun z => by unfold QT QB at z; omega)).1]; exact k2, fun j q hj => ?_⟩
    have hj2 := (List.getElem?_eq_some_iff.mp hj).1
    rw [(n 29 _ (fun z => by unfold QT QB at z; omega)).1, (n 30 _ (fun z => by unfold QT QB at z; omega)).2]
    exact k3 j q hj
theorem QT_W {w : Nat} : ∀ r k, QT w r k → QW r k := fun r k z => by unfold QT QB at z; unfold QW; omega
theorem rr_comesJoin {s : ST} {m : MM} {w : Nat} (h : RR s m) (hc : CLs s) (hw : w < c_n s) (hu : c_cp s < c_n s) (hs : srt (c_pr s w)) (hno : ∀ g, g ∈ c_ms s → ¬ (g_so g = 6 ∨ g_so g = 10)) (hlen : (c_ms s).length < 192) (ha : onw s w (c_nm s (c_cp s)) = none → awy s w = false) :
    ∃ m', go 128 0 [some (vr 8 (some 0)), some (vi (nI w)), some (vi (nI (c_cp s))), none, none, none, none] [] m = some (none, m') ∧ RR (comesJoin s w) m' ∧ fs QW m m' := by
  have h32 := h.1.2.2.1
  have hx := h.1.1
  have hn := h.1.2.1
  have gu := (h.1.2.2.2.2.2 _ hu).1
  have gw := (h.1.2.2.2.2.2 _ hw).1
  have iu := ixN (FN_19 hn) (i := c_cp s) (by omega) (by decide)
  have iw := ixN (FN_19 hn) (i := w) (by omega) (by decide)
  have ai := rr_aims (x := c_nm s (c_cp s)) h.1 hc hw
  have base : ∀ r, go 128 16 [some (vr 8 (some 0)), some (vi (nI w)), some (vi (nI (c_cp s))), some (vi (aimv s w (c_nm s (c_cp s)))), none, none, none] [vi (-10), vi (aimv s w (c_nm s (c_cp s)))] m = r → go 128 0 [some (vr 8 (some 0)), some (vi (nI w)), some (vi (nI (c_cp s))), none, none, none, none] [] m = r := by
    intro r hr
    rw [← hr]
    simp only [s128_0, s128_1, s128_2, s128_3, s128_6, s128_7, s128_8, s128_9, s128_12i, s128_12r, s128_12n, s128_13, s128_14, eq_self, ixk_some, bd_some, nl_n, nl_i, nl_r, Option.toList_some, Option.toList_none, List.cons_append, List.nil_append, FX_2 hx, FX_3 hx, FX_4 hx, FX_5 hx, FX_6 hx, FX_7 hx, FX_8 hx, FX_9 hx, FX_10 hx, FX_11 hx, FX_12 hx, FX_13 hx, FX_15 hx, FX_19 hx, FX_20 hx, FX_21 hx, FX_22 hx, FX_23 hx, FX_24 hx, FX_25 hx, FX_26 hx, FX_27 hx, FX_28 hx, FX_29 hx, FX_31 hx, FX_32 hx, FX_33 hx, FX_34 hx, FX_35 hx, FX_36 hx, FX_37 hx, FX_39 hx, FX_40 hx, iu, gu, ai]
  rw [join_eq]
  unfold aimv at base
  cases ho : onw s w (c_nm s (c_cp s)) with
  | some p => 
    have hp := onw_lt hc hw ho
    rw [ho] at base
    have n2 : ¬ nI p = -10 := by
      intro z
      have := congrArg Int32.toInt z
      rw [nI_toInt (by omega)] at this
      have h4 : ((-10 : Int32)).toInt = -10 := by decide
      omega
    obtain ⟨m1, d1, d2, d3⟩ := rr_send (g := (5, p, none, none, 0, none, none)) (wh := nI (c_cp s)) (ot := -4) h hlen (RRb_snd h.2.2.2.2.2.2 (by show 5 ≠ 6 ∧ 5 ≠ 10; decide)) ⟨fun _ => rfl, fun z => absurd z (by show ¬ 5 = _; decide), fun z => by rcases z with z | z <;> exact absurd z (by show ¬ 5 = _; decide)⟩
    have d1 : go 119 0 [some (vr 8 (some 0)), some (vi 5), some (vi (nI p)), some (vi (-4)), some (vi (-4)), some (vi 0), some (vi (nI (c_cp s))), some (vi (-4)), none] [] m = some (none, m1) := d1
    refine ⟨m1, base _ ?_, d2, d3⟩
    simp only [s128_16, s128_19, s128_20, s128_21, s128_22, s128_24, s128_26, s128_27, s128_28, s128_30, s128_33, eq_self, ixk_some, bd_some, nl_n, nl_i, nl_r, Option.toList_some, Option.toList_none, List.cons_append, List.nil_append, n2, if_false, d1]
  | none => 
    rw [ho, ha ho] at base
    simp only [Bool.false_eq_true, if_false] at base
    have h16 := (h.2.1 w hw).1
    have k28 := (h.2.1 w hw).2.1
    have i28 := ixN (FN_28 hn) (i := w) (by omega) (by decide)
    have F0 : fs (QT w) m (sI m 8 0 38 0) := fsI (fs_rf _ m) (Or.inr (Or.inr (Or.inr ⟨rfl, rfl⟩)))
    have L0 : RRl (sI m 8 0 38 0) w ((c_pr s w).take (c_pr s w).length ++ []) := by
      rw [List.take_length, List.append_nil]
      exact RRl_fs (Q := fun r k => r = 8 ∧ k = 38) (h.2.1 w hw) (fsI (fs_rf _ m) ⟨rfl, rfl⟩) (fun r k z => by omega)
    have B0 : BGo [] (sI m 8 0 38 0) := ⟨Nat.zero_le _, rfl, fun j q hj => by simp at hj⟩
    have J := fun b => jn_loop (w := w) (u := c_cp s) (b := b) (x := c_nm s (c_cp s)) (y := c_nm s w) (a3 := -10) (L := c_pr s w) (by omega) (by omega) (c_pr s w).length (sI m 8 0 38 0) [] [] none (Nat.le_refl _) (FX_fs hx F0) (FN_fs hn F0) gu gw L0 B0 (by simpa using h16)
    simp only [List.take_length, List.append_nil, List.nil_append] at J
    have lp : ∀ b, go 128 54 [some (vr 8 (some 0)), some (vi (nI w)), some (vi (nI (c_cp s))), some (vi (-10)), none, none, none] [vi (b2 b)] m = go 128 71 [some (vr 8 (some 0)), some (vi (nI w)), some (vi (nI (c_cp s))), some (vi (-10)), some (vi (b2 b)), some (vi (nI (c_pr s w).length + (-1))), none] [] (sI m 8 0 38 0) := by
      intro b
      have e28 : mI (sI m 8 0 38 0) 28 0 w = nI (c_pr s w).length := k28
      simp only [s128_54i, s128_54r, s128_54n, s128_56, s128_57, s128_58, s128_61, s128_62, s128_65, s128_66, s128_67, s128_68, s128_69i, s128_69r, s128_69n, eq_self, ixk_some, bd_some, nl_n, nl_i, nl_r, Option.toList_some, Option.toList_none, List.cons_append, List.nil_append, mR_sI, mN_sI, FX_2 hx, FX_3 hx, FX_4 hx, FX_5 hx, FX_6 hx, FX_7 hx, FX_8 hx, FX_9 hx, FX_10 hx, FX_11 hx, FX_12 hx, FX_13 hx, FX_15 hx, FX_19 hx, FX_20 hx, FX_21 hx, FX_22 hx, FX_23 hx, FX_24 hx, FX_25 hx, FX_26 hx, FX_27 hx, FX_28 hx, FX_29 hx, FX_31 hx, FX_32 hx, FX_33 hx, FX_34 hx, FX_35 hx, FX_36 hx, FX_37 hx, FX_39 hx, FX_40 hx, i28, e28, sub_m1]
    show ∃ m', _ ∧ RR (given s w) m' ∧ _
    unfold given
    by_cases hlt : c_nm s w < c_nm s (c_cp s)
    · obtain ⟨m1, z1, z2, z3, z4⟩ := J true
      simp only [if_pos hlt]
      have e1 : (c_pr s w).filter (fun q => !goes true (c_nm s (c_cp s)) (c_nm s w) q) = (c_pr s w).filter (fun q => decide (q.1 < c_nm s (c_cp s))) := by
        apply List.filter_congr
        intro q _
        unfold goes
        rw [if_pos rfl]
        by_cases e : c_nm s (c_cp s) ≤ q.1
        · rw [decide_eq_true e, decide_eq_false (i_nlt.mpr e)]; rfl
        · rw [decide_eq_false e, decide_eq_true (i_nle.mp e)]; rfl
      have e2 : (c_pr s w).filter (goes true (c_nm s (c_cp s)) (c_nm s w)) = (c_pr s w).filter (fun q => decide (c_nm s (c_cp s) ≤ q.1)) := by
        apply List.filter_congr
        intro q _
        unfold goes
        rw [if_pos rfl]
      rw [e1] at z2
      rw [e2] at z3
      have hsX : srt ((c_pr s w).filter (fun q => decide (c_nm s (c_cp s) ≤ q.1))) := List.Pairwise.sublist List.filter_sublist hs
      generalize (c_pr s w).filter (fun q => decide (c_nm s (c_cp s) ≤ q.1)) = X at *
      generalize (c_pr s w).filter (fun q => decide (q.1 < c_nm s (c_cp s))) = A at *
      have R1 : RR (c_bg_ (c_pr_ s (up1 (c_pr s) w A)) X) m1 := RR_bag h z2 (fs_tr F0 z4) hno
      have rt := rr_right (l := 0) R1.1 hw (by decide)
      have rt : go 113 0 [some (vr 8 (some 0)), some (vi (nI w)), some (vi 0)] [] m1 = some (some (vi (enc (lnk s w 0 1))), m1) := rt
      obtain ⟨m2, d1, d2, d3⟩ := rr_send (g := (6, c_cp s, none, none, 0, some w, lnk s w 0 1)) (wh := nI w) (ot := enc (lnk s w 0 1)) R1 hlen (fun _ => ⟨X.reverse, z3, fun M _ => inl1_rev X M hsX⟩) ⟨fun z => by rcases z with z | z <;> exact absurd z (by show ¬ 6 = _; decide), fun z => absurd z (by show ¬ 6 = _; decide), fun _ => ⟨rfl, rfl⟩⟩
      have d1 : go 119 0 [some (vr 8 (some 0)), some (vi 6), some (vi (nI (c_cp s))), some (vi (-4)), some (vi (-4)), some (vi 0), some (vi (nI w)), some (vi (enc (lnk s w 0 1))), none] [] m1 = some (none, m2) := d1
      refine ⟨m2, base _ ?_, d2, fs_tr (fs_le (fs_tr F0 z4) QT_W) d3⟩
      have nle : ¬ c_nm s (c_cp s) ≤ c_nm s w := i_nle.mpr hlt
      have st : go 128 16 [some (vr 8 (some 0)), some (vi (nI w)), some (vi (nI (c_cp s))), some (vi (-10)), none, none, none] [vi (-10), vi (-10)] m = go 128 54 [some (vr 8 (some 0)), some (vi (nI w)), some (vi (nI (c_cp s))), some (vi (-10)), none, none, none] [vi (b2 true)] m := by
        simp only [s128_16, s128_34, s128_35, s128_38, s128_39, s128_40, s128_41, s128_44, s128_45, s128_46, s128_49, s128_50, eq_self, ixk_some, bd_some, nl_n, nl_i, nl_r, Option.toList_some, Option.toList_none, List.cons_append, List.nil_append, if_true, FX_2 hx, FX_3 hx, FX_4 hx, FX_5 hx, FX_6 hx, FX_7 hx, FX_8 hx, FX_9 hx, FX_10 hx, FX_11 hx, FX_12 hx, FX_13 hx, FX_15 hx, FX_19 hx, FX_20 hx, FX_21 hx, FX_22 hx, FX_23 hx, FX_24 hx, FX_25 hx, FX_26 hx, FX_27 hx, FX_28 hx, FX_29 hx, FX_31 hx, FX_32 hx, FX_33 hx, FX_34 hx, FX_35 hx, FX_36 hx, FX_37 hx, FX_39 hx, FX_40 hx, iw, gw, iu, gu, nle, if_false, b2_t]
      rw [st, lp true]
      refine z1 _ (fun a5 a6 => ?_)
      rw [b2_t]
      have x10 : ¬ (1 : Int32) = 0 := by decide
      simp only [s128_175, s128_176, s128_178, s128_179, s128_181, s128_183, s128_184, s128_186, s128_189, s128_190, s128_195, s128_197, s128_200, s128_201, s128_202, eq_self, ixk_some, bd_some, nl_n, nl_i, nl_r, Option.toList_some, Option.toList_none, List.cons_append, List.nil_append, x10, if_false]
      rw [s128_203]
      · simp only [s128_206, s128_210, s128_213, eq_self, ixk_some, bd_some, nl_n, nl_i, nl_r, Option.toList_some, Option.toList_none, List.cons_append, List.nil_append, rt, d1]
      · exact Nat.le_of_ble_eq_true rfl
    · obtain ⟨m1, z1, z2, z3, z4⟩ := J false
      simp only [if_neg hlt]
      have e1 : (c_pr s w).filter (fun q => !goes false (c_nm s (c_cp s)) (c_nm s w) q) = (c_pr s w).filter (fun q => decide (c_nm s w ≤ q.1)) := by
        apply List.filter_congr
        intro q _
        unfold goes
        rw [if_neg (by decide)]
        by_cases e : q.1 < c_nm s w
        · rw [decide_eq_true e, decide_eq_false (i_nle.mpr e)]; rfl
        · rw [decide_eq_false e, decide_eq_true (i_nlt.mp e)]; rfl
      have e2 : (c_pr s w).filter (goes false (c_nm s (c_cp s)) (c_nm s w)) = (c_pr s w).filter (fun q => decide (q.1 < c_nm s w)) := by
        apply List.filter_congr
        intro q _
        unfold goes
        rw [if_neg (by decide)]
      rw [e1] at z2
      rw [e2] at z3
      have hsX : srt ((c_pr s w).filter (fun q => decide (q.1 < c_nm s w))) := List.Pairwise.sublist List.filter_sublist hs
      generalize (c_pr s w).filter (fun q => decide (q.1 < c_nm s w)) = X at *
      generalize (c_pr s w).filter (fun q => decide (c_nm s w ≤ q.1)) = A at *
      have R1 : RR (c_bg_ (c_pr_ s (up1 (c_pr s) w A)) X) m1 := RR_bag h z2 (fs_tr F0 z4) hno
      obtain ⟨m2, d1, d2, d3⟩ := rr_send (g := (6, c_cp s, none, none, 0, none, some w)) (wh := -4) (ot := nI w) R1 hlen (fun _ => ⟨X.reverse, z3, fun M _ => inl1_rev X M hsX⟩) ⟨fun z => by rcases z with z | z <;> exact absurd z (by show ¬ 6 = _; decide), fun z => absurd z (by show ¬ 6 = _; decide), fun _ => ⟨rfl, rfl⟩⟩
      have d1 : go 119 0 [some (vr 8 (some 0)), some (vi 6), some (vi (nI (c_cp s))), some (vi (-4)), some (vi (-4)), some (vi 0), some (vi (-4)), some (vi (nI w)), none] [] m1 = some (none, m2) := d1
      refine ⟨m2, base _ ?_, d2, fs_tr (fs_le (fs_tr F0 z4) QT_W) d3⟩
      have nle : c_nm s (c_cp s) ≤ c_nm s w := i_nlt.mp hlt
      have st : go 128 16 [some (vr 8 (some 0)), some (vi (nI w)), some (vi (nI (c_cp s))), some (vi (-10)), none, none, none] [vi (-10), vi (-10)] m = go 128 54 [some (vr 8 (some 0)), some (vi (nI w)), some (vi (nI (c_cp s))), some (vi (-10)), none, none, none] [vi (b2 false)] m := by
        simp only [s128_16, s128_34, s128_35, s128_38, s128_39, s128_40, s128_41, s128_44, s128_45, s128_46, s128_53, eq_self, ixk_some, bd_some, nl_n, nl_i, nl_r, Option.toList_some, Option.toList_none, List.cons_append, List.nil_append, if_true, FX_2 hx, FX_3 hx, FX_4 hx, FX_5 hx, FX_6 hx, FX_7 hx, FX_8 hx, FX_9 hx, FX_10 hx, FX_11 hx, FX_12 hx, FX_13 hx, FX_15 hx, FX_19 hx, FX_20 hx, FX_21 hx, FX_22 hx, FX_23 hx, FX_24 hx, FX_25 hx, FX_26 hx, FX_27 hx, FX_28 hx, FX_29 hx, FX_31 hx, FX_32 hx, FX_33 hx, FX_34 hx, FX_35 hx, FX_36 hx, FX_37 hx, FX_39 hx, FX_40 hx, iw, gw, iu, gu, nle, b2_f]
      rw [st, lp false]
      refine z1 _ (fun a5 a6 => ?_)
      rw [b2_f]
      simp only [s128_175, s128_176, s128_178, s128_179, s128_181, s128_183, s128_184, s128_186, s128_193, s128_195, s128_197, s128_209, s128_210, s128_213, eq_self, ixk_some, bd_some, nl_n, nl_i, nl_r, Option.toList_some, Option.toList_none, List.cons_append, List.nil_append, if_true, d1]
