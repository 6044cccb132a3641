/-! the class: Pairs.holds, Pairs.set -/
def fr (Q : Nat → Nat → Prop) (m m' : MM) : Prop := (∀ r n k, ¬ Q r n → mI m' r n k = mI m r n k ∧ mL m' r n k = mL m r n k ∧ mR m' r n k = mR m r n k) ∧ (∀ r, mC m' r = mC m r) ∧ (∀ r n, mN m' r n = mN m r n) ∧ mT m' = mT m ∧ mS m' = mS m
theorem fr_rf (Q : Nat → Nat → Prop) (m : MM) : fr Q m m := ⟨fun _ _ _ _ => ⟨rfl, rfl, rfl⟩, fun _ => rfl, fun _ _ => rfl, rfl, rfl⟩
theorem fr_tr {Q : Nat → Nat → Prop} {a b c : MM} (h : fr Q a b) (g : fr Q b c) : fr Q a c :=
  ⟨fun r n k q => ⟨(g.1 r n k q).1.trans (h.1 r n k q).1, (g.1 r n k q).2.1.trans (h.1 r n k q).2.1, (g.1 r n k q).2.2.trans (h.1 r n k q).2.2⟩, fun r => (g.2.1 r).trans (h.2.1 r), fun r n => (g.2.2.1 r n).trans (h.2.2.1 r n), g.2.2.2.1.trans h.2.2.2.1, g.2.2.2.2.trans h.2.2.2.2⟩
theorem fr_le {Q Q' : Nat → Nat → Prop} {a b : MM} (h : fr Q a b) (hq : ∀ r n, Q r n → Q' r n) : fr Q' a b := ⟨fun r n k q => h.1 r n k (fun z => q (hq r n z)), h.2⟩
theorem fr_sI {Q : Nat → Nat → Prop} (m : MM) {r n k : Nat} (v : Int32) (hq : Q r n) : fr Q m (sI m r n k v) :=
  ⟨fun a b c z => ⟨by rw [mI_sI, if_neg (fun e => z (by rw [e.1, e.2.1]; exact hq))], rfl, rfl⟩, fun _ => rfl, fun _ _ => rfl, rfl, rfl⟩
theorem fr_sL {Q : Nat → Nat → Prop} (m : MM) {r n k : Nat} (v : Int64) (hq : Q r n) : fr Q m (sL m r n k v) :=
  ⟨fun a b c z => ⟨rfl, by rw [mL_sL, if_neg (fun e => z (by rw [e.1, e.2.1]; exact hq))], rfl⟩, fun _ => rfl, fun _ _ => rfl, rfl, rfl⟩
theorem fr_sR {Q : Nat → Nat → Prop} (m : MM) {r n k : Nat} (v : Option Nat) (hq : Q r n) : fr Q m (sR m r n k v) :=
  ⟨fun a b c z => ⟨rfl, rfl, by rw [mR_sR, if_neg (fun e => z (by rw [e.1, e.2.1]; exact hq))]⟩, fun _ => rfl, fun _ _ => rfl, rfl, rfl⟩
def QP (p : Nat) : Nat → Nat → Prop := fun r n => (r = 5 ∨ r = 12 ∨ r = 13) ∧ n = p
theorem ins_rep {key : Int32} {v : Int64} : ∀ L : PRS, (L[bl key L]?).map Prod.fst = some key → (ins L key v).length = L.length ∧ ∀ j, (ins L key v)[j]? = if j = bl key L then some (key, v) else L[j]?
  | [], h => by simp [bl] at h
  | q :: r, h => by
    by_cases hk : q.1 < key
    · have hb : bl key (q :: r) = bl key r + 1 := by simp [bl, hk, Nat.add_comm]
      rw [hb] at h
      obtain ⟨i1, i2⟩ := ins_rep (v := v) r (by simpa using h)
      have hi : ins (q :: r) key v = q :: ins r key v := by simp [ins, hk]
      rw [hi, hb]
      refine ⟨by simp [i1], fun j => ?_⟩
      cases j with
      | zero => simp
      | succ j => simp [i2 j]
    · have hb : bl key (q :: r) = 0 := by simp [bl, hk]
      rw [hb] at h
      have hq : q.1 = key := by simpa using h
      have hi : ins (q :: r) key v = (key, v) :: r := by simp [ins, hk, hq]
      rw [hi, hb]
      refine ⟨rfl, fun j => ?_⟩
      cases j <;> simp
theorem ins_new {key : Int32} {v : Int64} : ∀ L : PRS, ¬ (L[bl key L]?).map Prod.fst = some key → (ins L key v).length = L.length + 1 ∧ ∀ j, (ins L key v)[j]? = if j < bl key L then L[j]? else if j = bl key L then some (key, v) else L[j - 1]?
  | [], h => by
    refine ⟨rfl, fun j => ?_⟩
    cases j <;> simp [ins, bl]
  | q :: r, h => by
    by_cases hk : q.1 < key
    · have hb : bl key (q :: r) = bl key r + 1 := by simp [bl, hk, Nat.add_comm]
      rw [hb] at h
      obtain ⟨i1, i2⟩ := ins_new (v := v) r (by simpa using h)
      have hi : ins (q :: r) key v = q :: ins r key v := by simp [ins, hk]
      rw [hi, hb]
      refine ⟨by simp [i1], fun j => ?_⟩
      cases j with
      | zero => simp
      | succ j =>
        simp only [List.getElem?_cons_succ, i2 j, Nat.add_lt_add_iff_right, Nat.add_right_cancel_iff]
        by_cases h1 : j < bl key r
        · simp [h1]
        · by_cases h2 : j = bl key r
          · simp [h2]
          · obtain ⟨j', rfl⟩ : ∃ j', j = j' + 1 := ⟨j - 1, by omega⟩
            simp [h1, h2]
    · have hb : bl key (q :: r) = 0 := by simp [bl, hk]
      rw [hb] at h
      have hq : ¬ q.1 = key := by simpa using h
      have hi : ins (q :: r) key v = (key, v) :: q :: r := by simp [ins, hk, hq]
      rw [hi, hb]
      refine ⟨rfl, fun j => ?_⟩
      cases j <;> simp
def shM (m : MM) (p a : Nat) : Nat → MM
  | 0 => m
  | d + 1 => shM (sL (sI m 12 p (a + d + 1) (mI m 12 p (a + d))) 13 p (a + d + 1) (mL m 13 p (a + d))) p a d
theorem shM_get (p a : Nat) : ∀ d (m : MM), (∀ r n k, mI (shM m p a d) r n k = if r = 12 ∧ n = p ∧ a < k ∧ k ≤ a + d then mI m 12 p (k - 1) else mI m r n k) ∧ (∀ r n k, mL (shM m p a d) r n k = if r = 13 ∧ n = p ∧ a < k ∧ k ≤ a + d then mL m 13 p (k - 1) else mL m r n k) ∧ mR (shM m p a d) = mR m ∧ mC (shM m p a d) = mC m ∧ mN (shM m p a d) = mN m ∧ mT (shM m p a d) = mT m ∧ mS (shM m p a d) = mS m
  | 0, m => ⟨fun r n k => by rw [if_neg (by omega)]; rfl, fun r n k => by rw [if_neg (by omega)]; rfl, rfl, rfl, rfl, rfl, rfl⟩
  | d + 1, m => by
    obtain ⟨g1, g2, g3, g4, g5, g6, g7⟩ := shM_get p a d (sL (sI m 12 p (a + d + 1) (mI m 12 p (a + d))) 13 p (a + d + 1) (mL m 13 p (a + d)))
    refine ⟨fun r n k => ?_, fun r n k => ?_, g3, g4, g5, g6, g7⟩
    · show mI (shM _ p a d) r n k = _
      rw [g1]
      simp only [mI_sL, mI_sI]
      by_cases h1 : r = 12 ∧ n = p
      · obtain ⟨rfl, rfl⟩ := h1
        by_cases h2 : a < k ∧ k ≤ a + d
        · rw [if_pos ⟨rfl, rfl, h2⟩, if_neg (by omega), if_pos ⟨rfl, rfl, by omega⟩]
        · rw [if_neg (fun z => h2 z.2.2)]
          by_cases h3 : k = a + d + 1
          · rw [if_pos ⟨rfl, rfl, h3⟩, if_pos ⟨rfl, rfl, by omega⟩, h3]; rfl
          · rw [if_neg (fun z => h3 z.2.2), if_neg (fun z => by omega)]
      · rw [if_neg (fun z => h1 ⟨z.1, z.2.1⟩), if_neg (fun z => h1 ⟨z.1, z.2.1⟩), if_neg (fun z => h1 ⟨z.1, z.2.1⟩)]
    · show mL (shM _ p a d) r n k = _
      rw [g2]
      simp only [mL_sL, mL_sI]
      by_cases h1 : r = 13 ∧ n = p
      · obtain ⟨rfl, rfl⟩ := h1
        by_cases h2 : a < k ∧ k ≤ a + d
        · rw [if_pos ⟨rfl, rfl, h2⟩, if_neg (by omega), if_pos ⟨rfl, rfl, by omega⟩]
        · rw [if_neg (fun z => h2 z.2.2)]
          by_cases h3 : k = a + d + 1
          · rw [if_pos ⟨rfl, rfl, h3⟩, if_pos ⟨rfl, rfl, by omega⟩, h3]; rfl
          · rw [if_neg (fun z => h3 z.2.2), if_neg (fun z => by omega)]
      · rw [if_neg (fun z => h1 ⟨z.1, z.2.1⟩), if_neg (fun z => h1 ⟨z.1, z.2.1⟩), if_neg (fun z => h1 ⟨z.1, z.2.1⟩)]
theorem set_loop {p a : Nat} {key : Int32} {v : Int64} : ∀ d (m : MM), mN m 12 p = 16 → mN m 13 p = 16 → mR m 5 p 0 = some p → mR m 5 p 1 = some p → a + d < 16 →
    go 20 52 [some (vr 5 (some p)), some (vi key), some (vl v), none, some (vi (nI a)), some (vi (nI (a + d)))] [] m = go 20 97 [some (vr 5 (some p)), some (vi key), some (vl v), none, some (vi (nI a)), some (vi (nI a))] [] (shM m p a d) := by
  intro d
  induction d with
  | zero =>
    intro m h1 h2 h3 h4 h5
    rw [s20_52]
    simp only [s20_0, s20_1, s20_2, s20_5i, s20_5r, s20_5n, s20_7, s20_9, s20_10, s20_13, s20_16, s20_17, s20_20, s20_22, s20_23, s20_24, s20_27, s20_28, s20_31, s20_33, s20_34, s20_35, s20_36, s20_37, s20_40, s20_42, s20_45, s20_46, s20_47, s20_50i, s20_50r, s20_50n, s20_54, s20_56, s20_59, s20_60, s20_63, s20_65, s20_66, s20_69, s20_71, s20_72, s20_73, s20_74, s20_75, s20_76, s20_79, s20_81, s20_82, s20_85, s20_87, s20_88, s20_89, s20_90, s20_91i, s20_91r, s20_91n, s20_94, s20_98, s20_101, s20_103, s20_104, s20_105, s20_106, s20_109, s20_111, s20_112, s20_113, s20_114, s20_115, s20_118, s20_119, s20_120, s20_123, eq_self, ixk_some, bd_some, nl_n, nl_i, nl_r, Option.toList_some, Option.toList_none, List.cons_append, List.nil_append]
    rw [if_pos (nI_le (by omega) (by omega))]
    rfl
  | succ d ih =>
    intro m h1 h2 h3 h4 h5
    have e1 : nI (a + (d + 1)) - 1 = nI (a + d) := nI_pred (a + d)
    have e2 : nI (a + (d + 1)) + (-1) = nI (a + d) := pk_m1 (a + d)
    have ix1 := ix_nI (i := a + (d + 1)) (n := 16) (by omega) (by decide)
    have ix2 := ix_nI (i := a + d) (n := 16) (by omega) (by decide)
    rw [s20_52]
    simp only [s20_0, s20_1, s20_2, s20_5i, s20_5r, s20_5n, s20_7, s20_9, s20_10, s20_13, s20_16, s20_17, s20_20, s20_22, s20_23, s20_24, s20_27, s20_28, s20_31, s20_33, s20_34, s20_35, s20_36, s20_37, s20_40, s20_42, s20_45, s20_46, s20_47, s20_50i, s20_50r, s20_50n, s20_54, s20_56, s20_59, s20_60, s20_63, s20_65, s20_66, s20_69, s20_71, s20_72, s20_73, s20_74, s20_75, s20_76, s20_79, s20_81, s20_82, s20_85, s20_87, s20_88, s20_89, s20_90, s20_91i, s20_91r, s20_91n, s20_94, s20_98, s20_101, s20_103, s20_104, s20_105, s20_106, s20_109, s20_111, s20_112, s20_113, s20_114, s20_115, s20_118, s20_119, s20_120, s20_123, eq_self, ixk_some, bd_some, nl_n, nl_i, nl_r, Option.toList_some, Option.toList_none, List.cons_append, List.nil_append, h1, h2, h3, h4, e1, e2, ix1, ix2, mN_sI, mN_sL, mR_sI, mR_sL, mI_sI, mL_sI]
    rw [if_neg (nI_ge (by omega) (by omega))]
    exact ih _ h1 h2 h3 h4 (by omega)
