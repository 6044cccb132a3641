/-! the class: writes on peers -/
def QE (i : Nat) : Nat → Nat → Prop := fun r n => (r = 6 ∨ r = 14 ∨ r = 15) ∧ n = i
theorem RCp_hs {s : ST} {m : MM} {i l : Nat} {b : Bool} (h : RCp s m) : RCp (c_hs_ s (up2 (c_hs s) i l b)) (sI m 14 i l (b2 b)) := by
  obtain ⟨h1, h2, h3, h4, h5, h6, h7⟩ := h
  refine ⟨h1, h2, h3, h4, h5, h6, fun j hj => ?_⟩
  obtain ⟨g0, g1, g2, g3, g4, g5, g6, g7, g8, g9, g10, g11, g12⟩ := h7 j hj
  refine ⟨g0, g1, g2, g3, g4, g5, g6, g7, g8, g9, g10, g11, fun k hk => ⟨?_, (g12 k hk).2⟩⟩
  show mI (sI m 14 i l (b2 b)) 14 j k = b2 (up2 (c_hs s) i l b j k)
  rw [mI_sI]
  unfold up2
  by_cases e : j = i ∧ k = l
  · rw [if_pos ⟨rfl, e⟩, if_pos e]
  · rw [if_neg (fun z => e z.2), if_neg e]
    exact (g12 k hk).1
theorem RCp_kl {s : ST} {m : MM} {i l d : Nat} {o : Option Nat} (h : RCp s m) (hd : d < 2) : RCp (c_kl_ s (up3 (c_kl s) i l d o)) (sR m 15 i (2 * l + d) o) := by
  obtain ⟨h1, h2, h3, h4, h5, h6, h7⟩ := h
  refine ⟨h1, h2, h3, h4, h5, h6, fun j hj => ?_⟩
  obtain ⟨g0, g1, g2, g3, g4, g5, g6, g7, g8, g9, g10, g11, g12⟩ := h7 j hj
  refine ⟨g0, g1, g2, g3, g4, g5, g6, g7, g8, g9, g10, g11, fun k hk => ⟨(g12 k hk).1, ?_, ?_⟩⟩
  · show mR (sR m 15 i (2 * l + d) o) 15 j (2 * k) = up3 (c_kl s) i l d o j k 0
    rw [mR_sR]
    unfold up3
    by_cases e : j = i ∧ k = l ∧ 0 = d
    · rw [if_pos ⟨rfl, e.1, by omega⟩, if_pos e]
    · rw [if_neg (fun z => e ⟨z.2.1, by omega, by omega⟩), if_neg e]
      exact (g12 k hk).2.1
  · show mR (sR m 15 i (2 * l + d) o) 15 j (2 * k + 1) = up3 (c_kl s) i l d o j k 1
    rw [mR_sR]
    unfold up3
    by_cases e : j = i ∧ k = l ∧ 1 = d
    · rw [if_pos ⟨rfl, e.1, by omega⟩, if_pos e]
    · rw [if_neg (fun z => e ⟨z.2.1, by omega, by omega⟩), if_neg e]
      exact (g12 k hk).2.2
theorem RCp_be {s : ST} {m : MM} {i b : Nat} (h : RCp s m) (hb : b ≤ 3) : RCp (c_be_ s (up1 (c_be s) i b)) (sI m 6 i 3 (nI b)) := by
  obtain ⟨h1, h2, h3, h4, h5, h6, h7⟩ := h
  refine ⟨h1, h2, h3, h4, h5, fun j hj => ?_, fun j hj => ?_⟩
  · show up1 (c_be s) i b j ≤ 3
    unfold up1
    split
    · exact hb
    · exact h6 j hj
  obtain ⟨g0, g1, g2, g3, g4, g⟩ := h7 j hj
  refine ⟨?_, ?_, ?_, ?_, ?_, g⟩
  · rw [mI_sI, if_neg (by omega)]; exact g0
  · rw [mI_sI, if_neg (by omega)]; exact g1
  · rw [mI_sI, if_neg (by omega)]; exact g2
  · show mI (sI m 6 i 3 (nI b)) 6 j 3 = nI (up1 (c_be s) i b j)
    rw [mI_sI]
    unfold up1
    by_cases e : j = i
    · rw [if_pos ⟨rfl, e, rfl⟩, if_pos e]
    · rw [if_neg (fun z => e z.2.1), if_neg e]; exact g3
  · rw [mI_sI, if_neg (by omega)]; exact g4
theorem RCp_bt {s : ST} {m : MM} {i : Nat} {v : Int32} (h : RCp s m) : RCp (c_bt_ s (up1 (c_bt s) i v)) (sI m 6 i 2 v) := by
  obtain ⟨h1, h2, h3, h4, h5, h6, h7⟩ := h
  refine ⟨h1, h2, h3, h4, h5, h6, fun j hj => ?_⟩
  obtain ⟨g0, g1, g2, g3, g4, g⟩ := h7 j hj
  refine ⟨?_, ?_, ?_, ?_, ?_, g⟩
  · rw [mI_sI, if_neg (by omega)]; exact g0
  · rw [mI_sI, if_neg (by omega)]; exact g1
  · show mI (sI m 6 i 2 v) 6 j 2 = up1 (c_bt s) i v j
    rw [mI_sI]
    unfold up1
    by_cases e : j = i
    · rw [if_pos ⟨rfl, e, rfl⟩, if_pos e]
    · rw [if_neg (fun z => e z.2.1), if_neg e]; exact g2
  · rw [mI_sI, if_neg (by omega)]; exact g3
  · rw [mI_sI, if_neg (by omega)]; exact g4
theorem RCp_ld {s : ST} {m : MM} {i : Nat} {v : Int32} (h : RCp s m) : RCp (c_ld_ s (up1 (c_ld s) i v)) (sI m 6 i 4 v) := by
  obtain ⟨h1, h2, h3, h4, h5, h6, h7⟩ := h
  refine ⟨h1, h2, h3, h4, h5, h6, fun j hj => ?_⟩
  obtain ⟨g0, g1, g2, g3, g4, g⟩ := h7 j hj
  refine ⟨?_, ?_, ?_, ?_, ?_, g⟩
  · rw [mI_sI, if_neg (by omega)]; exact g0
  · rw [mI_sI, if_neg (by omega)]; exact g1
  · rw [mI_sI, if_neg (by omega)]; exact g2
  · rw [mI_sI, if_neg (by omega)]; exact g3
  · show mI (sI m 6 i 4 v) 6 j 4 = up1 (c_ld s) i v j
    rw [mI_sI]
    unfold up1
    by_cases e : j = i
    · rw [if_pos ⟨rfl, e, rfl⟩, if_pos e]
    · rw [if_neg (fun z => e z.2.1), if_neg e]; exact g4
theorem RCp_ol {s : ST} {m : MM} {i d : Nat} {o : Option Nat} (h : RCp s m) (hd : d < 2) : RCp (c_ol_ s (up2 (c_ol s) i d o)) (sR m 6 i (7 + d) o) := by
  obtain ⟨h1, h2, h3, h4, h5, h6, h7⟩ := h
  refine ⟨h1, h2, h3, h4, h5, h6, fun j hj => ?_⟩
  obtain ⟨g0, g1, g2, g3, g4, g5, g6, g7, g8, g9, g⟩ := h7 j hj
  refine ⟨g0, g1, g2, g3, g4, ?_, ?_, ?_, ?_, ?_, g⟩
  · rw [mR_sR, if_neg (by omega)]; exact g5
  · rw [mR_sR, if_neg (by omega)]; exact g6
  · show mR (sR m 6 i (7 + d) o) 6 j 7 = up2 (c_ol s) i d o j 0
    rw [mR_sR]
    unfold up2
    by_cases e : j = i ∧ 0 = d
    · rw [if_pos ⟨rfl, e.1, by omega⟩, if_pos e]
    · rw [if_neg (fun z => e ⟨z.2.1, by omega⟩), if_neg e]; exact g7
  · show mR (sR m 6 i (7 + d) o) 6 j 8 = up2 (c_ol s) i d o j 1
    rw [mR_sR]
    unfold up2
    by_cases e : j = i ∧ 1 = d
    · rw [if_pos ⟨rfl, e.1, by omega⟩, if_pos e]
    · rw [if_neg (fun z => e ⟨z.2.1, by omega⟩), if_neg e]; exact g8
  · rw [mR_sR, if_neg (by omega)]; exact g9
theorem go_makePlace {s : ST} {m : MM} {i l : Nat} (h : RCp s m) (hi : i < c_n s) (hl : l < 2 ^ 31) : go 29 0 [some (vr 6 (some i)), some (vi (nI l))] [] m = some (none, if l < 9 then sI m 14 i l 1 else m) := by
  obtain ⟨g0, g1, g2, g3, g4, g5, g6, g7, g8, g9, g10, g11, g12⟩ := h.2.2.2.2.2.2 i hi
  simp only [s29_0, s29_1, s29_4, s29_5, s29_7, s29_10, s29_11, s29_14, s29_15, s29_16b0, s29_16b1, s29_17, eq_self, ixk_some, bd_some, nl_n, nl_i, nl_r, Option.toList_some, Option.toList_none, List.cons_append, List.nil_append, g5]
  rw [if_neg (nI_pos hl), nI_k9]
  by_cases h9 : l < 9
  · have hix := ix_nI (i := l) (n := mN m 14 i) (by rw [g10]; exact h9) (by rw [g10]; decide)
    rw [if_neg (nI_ge (by omega) (by omega)), hix, ixk_some, if_pos h9]
  · rw [if_pos (nI_le (by omega) hl), if_neg h9]
theorem go_setNext {s : ST} {m : MM} {i l d t : Nat} {o : Option Nat} (h : RCp s m) (hi : i < c_n s) (hl : l < 9) (hd : d < 2) (ht : o = none ∨ t = 6) (hh : c_hs s i l = true) : go 30 0 [some (vr 6 (some i)), some (vi (nI l)), some (vi (nI d)), some (vr t o)] [] m = some (none, sR m 15 i (2 * l + d) o) := by
  have hp := go_hasPlace h hi (show l < 2 ^ 31 by omega)
  obtain ⟨g0, g1, g2, g3, g4, g5, g6, g7, g8, g9, g10, g11, g12⟩ := h.2.2.2.2.2.2 i hi
  have hix := ix_nI (i := 2 * l + d) (n := mN m 15 i) (by rw [g11]; omega) (by rw [g11]; decide)
  simp only [hl, hh, decide_true, Bool.and_self, b2_t] at hp
  cases o with
  | none =>
    simp only [s30_0, s30_1, s30_2, s30_5, s30_8, s30_9, s30_12, s30_13, s30_14, s30_15, s30_16, s30_17, s30_18, s30_19, s30_20r, s30_20n, s30_21, eq_self, ixk_some, bd_some, nl_n, nl_i, nl_r, Option.toList_some, Option.toList_none, List.cons_append, List.nil_append, hp, g6, ix2 hd, hix]
    rw [if_neg (by decide)]
  | some x =>
    obtain rfl : t = 6 := ht.resolve_left (by simp)
    simp only [s30_0, s30_1, s30_2, s30_5, s30_8, s30_9, s30_12, s30_13, s30_14, s30_15, s30_16, s30_17, s30_18, s30_19, s30_20r, s30_20n, s30_21, eq_self, ixk_some, bd_some, nl_n, nl_i, nl_r, Option.toList_some, Option.toList_none, List.cons_append, List.nil_append, hp, g6, ix2 hd, hix]
    rw [if_neg (by decide)]
theorem go_setPlace {s : ST} {m : MM} {i l t t' : Nat} {o o' : Option Nat} (h : RCp s m) (hi : i < c_n s) (hl : l < 9) (ht : o = none ∨ t = 6) (ht' : o' = none ∨ t' = 6) : ∃ m', go 31 0 [some (vr 6 (some i)), some (vi (nI l)), some (vr t o), some (vr t' o')] [] m = some (none, m') ∧ RCp (plc s i l o o') m' ∧ fr (QE i) m m' := by
  have e1 := go_makePlace h hi (show l < 2 ^ 31 by omega)
  rw [if_pos hl] at e1
  have r1 : RCp (c_hs_ s (up2 (c_hs s) i l true)) (sI m 14 i l 1) := RCp_hs (b := true) h
  have hh1 : c_hs (c_hs_ s (up2 (c_hs s) i l true)) i l = true := if_pos ⟨rfl, rfl⟩
  have e2 := go_setNext (d := 0) (t := t) (o := o) r1 hi hl (by decide) ht hh1
  have r2 := RCp_kl (i := i) (l := l) (d := 0) (o := o) r1 (by decide)
  have e3 := go_setNext (d := 1) (t := t') (o := o') r2 hi hl (by decide) ht' hh1
  have r3 := RCp_kl (i := i) (l := l) (d := 1) (o := o') r2 (by decide)
  simp only [← nI_k0, ← nI_k1] at e2 e3
  refine ⟨_, ?_, r3, fr_tr (fr_sI m 1 ⟨Or.inr (Or.inl rfl), rfl⟩) (fr_tr (fr_sR _ o ⟨Or.inr (Or.inr rfl), rfl⟩) (fr_sR _ o' ⟨Or.inr (Or.inr rfl), rfl⟩))⟩
  simp only [s31_0, s31_1, s31_2, s31_5, s31_6, s31_7, s31_8, s31_9, s31_12, s31_13, s31_14, s31_15, s31_16, s31_19, eq_self, ixk_some, bd_some, nl_n, nl_i, nl_r, Option.toList_some, Option.toList_none, List.cons_append, List.nil_append, e1, e2, e3]
