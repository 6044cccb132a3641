/-! the class: what stays where others write; comeIn, linkComes -/
theorem RCp_fr {s : ST} {m m' : MM} {Q : Nat → Nat → Prop} (h : RCp s m) (hf : fr Q m m') (hq : ∀ r n, Q r n → r ≠ 6 ∧ r ≠ 7 ∧ r ≠ 14 ∧ r ≠ 15 ∧ r ≠ 16) : RCp s m' := by
  obtain ⟨k1, k2, k3, k4, k5, k6, k7⟩ := h
  have n6 : ∀ n, ¬ Q 6 n := fun n z => (hq 6 n z).1 rfl
  have n7 : ∀ n, ¬ Q 7 n := fun n z => (hq 7 n z).2.1 rfl
  have n14 : ∀ n, ¬ Q 14 n := fun n z => (hq 14 n z).2.2.1 rfl
  have n15 : ∀ n, ¬ Q 15 n := fun n z => (hq 15 n z).2.2.2.1 rfl
  have n16 : ∀ n, ¬ Q 16 n := fun n z => (hq 16 n z).2.2.2.2 rfl
  refine ⟨k1, by rw [(hf.1 7 0 1 (n7 0)).1]; exact k2, by rw [(hf.1 7 0 0 (n7 0)).2.2]; exact k3, by rw [hf.2.2.1]; exact k4, fun i hi => by rw [(hf.1 16 0 i (n16 0)).2.2]; exact k5 i hi, k6, fun i hi => ?_⟩
  obtain ⟨g0, g1, g2, g3, g4, g5, g6, g7, g8, g9, g10, g11, g12⟩ := k7 i hi
  exact ⟨by rw [(hf.1 6 i 0 (n6 i)).1]; exact g0, by rw [(hf.1 6 i 1 (n6 i)).1]; exact g1, by rw [(hf.1 6 i 2 (n6 i)).1]; exact g2, by rw [(hf.1 6 i 3 (n6 i)).1]; exact g3, by rw [(hf.1 6 i 4 (n6 i)).1]; exact g4,
    by rw [(hf.1 6 i 5 (n6 i)).2.2]; exact g5, by rw [(hf.1 6 i 6 (n6 i)).2.2]; exact g6, by rw [(hf.1 6 i 7 (n6 i)).2.2]; exact g7, by rw [(hf.1 6 i 8 (n6 i)).2.2]; exact g8, by rw [(hf.1 6 i 9 (n6 i)).2.2]; exact g9, by rw [hf.2.2.1]; exact g10, by rw [hf.2.2.1]; exact g11,
    fun l hl => ⟨by rw [(hf.1 14 i l (n14 i)).1]; exact (g12 l hl).1, by rw [(hf.1 15 i _ (n15 i)).2.2]; exact (g12 l hl).2.1, by rw [(hf.1 15 i _ (n15 i)).2.2]; exact (g12 l hl).2.2⟩⟩
theorem RCc_fr {s : ST} {m m' : MM} {Q : Nat → Nat → Prop} (h : RCc s m) (hf : fr Q m m') (hq : ∀ r n, Q r n → r ≠ 2 ∧ r ≠ 7) : RCc s m' := by
  obtain ⟨k1, k2, k3, k4, k5, k6, k7⟩ := h
  have n2 : ∀ n, ¬ Q 2 n := fun n z => (hq 2 n z).1 rfl
  have n7 : ∀ n, ¬ Q 7 n := fun n z => (hq 7 n z).2 rfl
  exact ⟨by rw [(hf.1 7 0 7 (n7 0)).2.2]; exact k1, by rw [(hf.1 2 0 0 (n2 0)).1]; exact k2, k3, by rw [(hf.1 2 0 1 (n2 0)).2.2]; exact k4, by rw [(hf.1 2 0 2 (n2 0)).1]; exact k5, fun z => by rw [(hf.1 2 0 3 (n2 0)).1]; exact k6 z, by rw [(hf.1 2 0 4 (n2 0)).2.2]; exact k7⟩
theorem RCk_fr {s : ST} {m m' : MM} {Q : Nat → Nat → Prop} (h : RCk s m) (hf : fr Q m m') (hq : ∀ r n, Q r n → r ≠ 18 ∧ r ≠ 7) : RCk s m' := by
  obtain ⟨k1, k2, k3, k4, k5, k6⟩ := h
  have n18 : ∀ n, ¬ Q 18 n := fun n z => (hq 18 n z).1 rfl
  have n7 : ∀ n, ¬ Q 7 n := fun n z => (hq 7 n z).2 rfl
  exact ⟨by rw [(hf.1 7 0 5 (n7 0)).1]; exact k1, k2, by rw [(hf.1 7 0 4 (n7 0)).2.2]; exact k3, by rw [hf.2.2.1]; exact k4, fun i x hx => by rw [(hf.1 18 0 i (n18 0)).1]; exact k5 i x hx, by rw [(hf.1 7 0 8 (n7 0)).1]; exact k6⟩
theorem RCa_fr {s : ST} {m m' : MM} {Q : Nat → Nat → Prop} (h : RCa s m) (hf : fr Q m m') (hq : ∀ r n, Q r n → r ≠ 1 ∧ r ≠ 7 ∧ r ≠ 9 ∧ r ≠ 10 ∧ r ≠ 17) : RCa s m' := by
  obtain ⟨k1, k2, k3, k4, k5, k6, k7⟩ := h
  have n1 : ∀ n, ¬ Q 1 n := fun n z => (hq 1 n z).1 rfl
  have n7 : ∀ n, ¬ Q 7 n := fun n z => (hq 7 n z).2.1 rfl
  have n9 : ∀ n, ¬ Q 9 n := fun n z => (hq 9 n z).2.2.1 rfl
  have n10 : ∀ n, ¬ Q 10 n := fun n z => (hq 10 n z).2.2.2.1 rfl
  have n17 : ∀ n, ¬ Q 17 n := fun n z => (hq 17 n z).2.2.2.2 rfl
  refine ⟨k1, by rw [(hf.1 7 0 3 (n7 0)).1]; exact k2, by rw [(hf.1 7 0 2 (n7 0)).2.2]; exact k3, by rw [hf.2.2.1]; exact k4, fun i hi => by rw [(hf.1 17 0 i (n17 0)).2.2]; exact k5 i hi, fun k hk => ?_, k7⟩
  obtain ⟨g0, g1, g2, g3, g4, g5, g6, g7, g8, g9, g10, g11, g12, g13, g14, g15, g16⟩ := k6 k hk
  have I := fun j => (hf.1 1 k j (n1 k)).1
  have R := fun j => (hf.1 1 k j (n1 k)).2.2
  exact ⟨by rw [I]; exact g0, by rw [I]; exact g1, by rw [I]; exact g2, by rw [I]; exact g3, by rw [(hf.1 1 k 4 (n1 k)).2.1]; exact g4, fun z => by rw [I]; exact g5 z, by rw [I]; exact g6, by rw [I]; exact g7, by rw [I]; exact g8, by rw [I]; exact g9, by rw [I]; exact g10, by rw [R]; exact g11, by rw [R]; exact g12, by rw [hf.2.2.1]; exact g13, by rw [hf.2.2.1]; exact g14,
    fun i x hx => by rw [(hf.1 9 k i (n9 k)).1]; exact g15 i x hx, fun z i x hx => by rw [(hf.1 10 k i (n10 k)).1]; exact g16 z i x hx⟩
theorem RCm_fr {s : ST} {m m' : MM} {Q : Nat → Nat → Prop} (h : RCm s m) (hf : fr Q m m') (hq : ∀ r n, Q r n → r ≠ 3 ∧ r ≠ 7 ∧ r ≠ 4 ∧ r ≠ 11) : RCm s m' := by
  obtain ⟨k1, k2, k3, k4, k5, k6, k7⟩ := h
  have n3 : ∀ n, ¬ Q 3 n := fun n z => (hq 3 n z).1 rfl
  have n7 : ∀ n, ¬ Q 7 n := fun n z => (hq 7 n z).2.1 rfl
  have n4 : ∀ n, ¬ Q 4 n := fun n z => (hq 4 n z).2.2.1 rfl
  have n11 : ∀ n, ¬ Q 11 n := fun n z => (hq 11 n z).2.2.2 rfl
  refine ⟨by rw [(hf.1 7 0 6 (n7 0)).2.2]; exact k1, by rw [(hf.1 3 0 0 (n3 0)).2.2]; exact k2, by rw [hf.2.2.1]; exact k3, by rw [(hf.1 3 0 1 (n3 0)).1]; exact k4, k5, by rw [(hf.1 3 0 2 (n3 0)).1]; exact k6, fun i g hg => ?_⟩
  obtain ⟨n, a1, ⟨b0, b1, b2', b3, b4, b5, b6⟩⟩ := k7 i g hg
  have I := fun j => (hf.1 4 n j (n4 n)).1
  have R := fun j => (hf.1 4 n j (n4 n)).2.2
  exact ⟨n, by rw [(hf.1 11 0 i (n11 0)).2.2]; exact a1, by rw [I]; exact b0, by rw [R]; exact b1, by rw [R]; exact b2', by rw [I]; exact b3, by rw [I]; exact b4, by rw [R]; exact b5, by rw [R]; exact b6⟩
theorem RCq_fr {s : ST} {m m' : MM} {Q : Nat → Nat → Prop} (h : RCq s m) (hf : fr Q m m') (hq : ∀ r n, Q r n → r ≠ 5 ∧ r ≠ 12 ∧ r ≠ 13) : RCq s m' := by
  have key : ∀ p L, RCl m p L → RCl m' p L := by
    intro p L hL
    obtain ⟨⟨h1, h2, h3, h4, h5, h6⟩, h7⟩ := hL
    have n5 : ¬ Q 5 p := fun z => (hq 5 p z).1 rfl
    have n12 : ¬ Q 12 p := fun z => (hq 12 p z).2.1 rfl
    have n13 : ¬ Q 13 p := fun z => (hq 13 p z).2.2 rfl
    refine ⟨⟨by rw [(hf.1 5 p 0 n5).2.2]; exact h1, by rw [(hf.1 5 p 1 n5).2.2]; exact h2, by rw [(hf.1 5 p 2 n5).1]; exact h3, h4, by rw [hf.2.2.1]; exact h5, by rw [hf.2.2.1]; exact h6⟩, fun j x hx => ?_⟩
    rw [(hf.1 12 p j n12).1, (hf.1 13 p j n13).2.1]
    exact h7 j x hx
  exact ⟨key 0 _ h.1, fun j hj => key (j + 1) _ (h.2 j hj)⟩
theorem RCq_clear {s : ST} {m : MM} {i : Nat} (h : RCq s m) : RCq (c_pr_ s (up1 (c_pr s) i [])) (sI m 5 (i + 1) 2 0) := by
  have other : ∀ p L, p ≠ i + 1 → RCl m p L → RCl (sI m 5 (i + 1) 2 0) p L := by
    intro p L hp hL
    obtain ⟨⟨h1, h2, h3, h4, h5, h6⟩, h7⟩ := hL
    exact ⟨⟨h1, h2, by rw [mI_sI, if_neg (by omega)]; exact h3, h4, h5, h6⟩, fun j x hx => h7 j x hx⟩
  refine ⟨other 0 _ (by omega) h.1, fun j hj => ?_⟩
  by_cases e : j = i
  · subst e
    obtain ⟨⟨h1, h2, h3, h4, h5, h6⟩, h7⟩ := h.2 j hj
    have e2 : c_pr (c_pr_ s (up1 (c_pr s) j [])) j = [] := if_pos rfl
    rw [e2]
    exact ⟨⟨h1, h2, by rw [mI_sI, if_pos ⟨rfl, rfl, rfl⟩]; rfl, by simp, h5, h6⟩, fun k x hx => by simp at hx⟩
  · have e2 : c_pr (c_pr_ s (up1 (c_pr s) i [])) j = c_pr s j := if_neg e
    rw [e2]
    exact other (j + 1) _ (by omega) (h.2 j hj)
def QI (i : Nat) : Nat → Nat → Prop := fun r n => QE i r n ∨ (r = 5 ∧ n = i + 1)
theorem go_comeIn {s : ST} {m : MM} {i t t' : Nat} {o o' : Option Nat} (h : RCp s m) (hq : RCq s m) (hi : i < c_n s) (ht : o = none ∨ t = 6) (ht' : o' = none ∨ t' = 6) : ∃ m', go 34 0 [some (vr 6 (some i)), some (vr t o), some (vr t' o')] [] m = some (none, m') ∧ RCp (c_pr_ (plc (nop (c_be_ s (up1 (c_be s) i 2)) i 0) i 0 o o') (up1 (c_pr s) i [])) m' ∧ RCq (c_pr_ (plc (nop (c_be_ s (up1 (c_be s) i 2)) i 0) i 0 o o') (up1 (c_pr s) i [])) m' ∧ fr (QI i) m m' := by
  have r1 := RCp_be (i := i) (b := 2) h (by decide)
  obtain ⟨m2, f1, f2, f3⟩ := go_drop (l := 0) r1 hi (by decide)
  obtain ⟨m3, k1, k2, k3⟩ := go_setPlace (l := 0) (t := t) (t' := t') (o := o) (o' := o') f2 hi (by decide) ht ht'
  simp only [← nI_k0] at f1 k1
  have fa : fr (QE i) m m3 := fr_tr (fr_sI m _ ⟨Or.inl rfl, rfl⟩) (fr_tr f3 k3)
  have g9 := (k2.2.2.2.2.2.2 i hi).2.2.2.2.2.2.2.2.2.1
  have q3 : RCq s m3 := RCq_frE hq fa
  have ff : fr (fun r n => r = 5 ∧ n = i + 1) m3 (sI m3 5 (i + 1) 2 0) := fr_sI m3 0 ⟨rfl, rfl⟩
  refine ⟨sI m3 5 (i + 1) 2 0, ?_, RCp_fr k2 ff (fun r n z => by omega), RCq_clear q3, fr_tr (fr_le fa (fun r n z => Or.inl z)) (fr_le ff (fun r n z => Or.inr z))⟩
  have f1 : go 32 0 [some (vr 6 (some i)), some (vi 0), none] [] (sI m 6 i 3 2) = some (none, m2) := f1
  simp only [s34_0, s34_1, s34_2, s34_5, s34_6, s34_7, s34_10, s34_11, s34_12, s34_13, s34_14, s34_17, s34_18, s34_21, s34_22, s34_25, eq_self, ixk_some, bd_some, nl_n, nl_i, nl_r, Option.toList_some, Option.toList_none, List.cons_append, List.nil_append, f1, k1, g9]
