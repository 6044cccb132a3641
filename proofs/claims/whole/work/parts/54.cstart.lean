/-! the class: seed, takeKey, startAsk -/
theorem go_seed {s : ST} {m : MM} {v : Int32} (h : RC s m) : ∃ m', go 40 0 [some (vr 7 (some 0)), some (vi v)] [] m = some (some (vi (o_seed s v).1), m') ∧ RC (o_seed s v).2 m' ∧ fg QZ m m' := by
  refine ⟨sI m 7 0 8 v, ?_, ?_, fg_fr (fr_sI m _ ⟨by decide, by decide, by decide⟩)⟩
  · simp only [s40_0, s40_1, s40_2, s40_5, s40_6, eq_self, ixk_some, bd_some, nl_n, nl_i, nl_r, Option.toList_some, Option.toList_none, List.cons_append, List.nil_append]
    rfl
  · obtain ⟨h1, h2, h3, h4, h5, h6, h7, h8⟩ := h
    show RC (c_dr_ s v) _
    refine ⟨h1, h2, ?_, h4, h5, h6, h7, h8⟩
    obtain ⟨k1, k2, k3, k4, k5, k6⟩ := h3
    exact ⟨k1, k2, k3, k4, k5, rfl⟩
theorem key_loop {s : ST} {m : MM} {key : Int32} (h : RCk s m) : ∀ (r : List Int32) (i : Nat), (c_ev s).drop i = r → i ≤ (c_ev s).length →
    go 58 2 [some (vr 7 (some 0)), some (vi key), some (vi (nI i))] [] m = if r.contains key = true then some (some (vi 1), m) else go 58 28 [some (vr 7 (some 0)), some (vi key), some (vi (nI (c_ev s).length))] [] m := by
  obtain ⟨k1, k2, k3, k4, k5, k6⟩ := h
  intro r
  induction r with
  | nil => 
    intro i hi hle
    have : (c_ev s).length ≤ i := by
      have := congrArg List.length hi
      rw [List.length_drop] at this
      simp at this
      omega
    have hi2 : i = (c_ev s).length := by omega
    rw [s58_2]
    simp only [s58_3, s58_4, s58_7, eq_self, ixk_some, bd_some, nl_n, nl_i, nl_r, Option.toList_some, Option.toList_none, List.cons_append, List.nil_append, k1]
    rw [if_pos (nI_le this (by omega)), hi2]
    simp
  | cons q r ih => 
    intro i hi hle
    have hlt : i < (c_ev s).length := by
      have := congrArg List.length hi
      rw [List.length_drop] at this
      simp at this
      omega
    have hq : (c_ev s)[i]? = some q := by
      have := congrArg List.head? hi
      rw [List.head?_drop] at this
      exact this
    have hr : (c_ev s).drop (i + 1) = r := by
      rw [← List.drop_drop, hi]
      rfl
    have hix := ix_nI (i := i) (n := mN m 18 0) (by rw [k4]; omega) (by rw [k4]; decide)
    have s1 : nI i + 1 = nI (i + 1) := nI_1 i
    rw [s58_2]
    simp only [s58_3, s58_4, s58_7, eq_self, ixk_some, bd_some, nl_n, nl_i, nl_r, Option.toList_some, Option.toList_none, List.cons_append, List.nil_append, k1]
    rw [if_neg (nI_ge hlt (by omega))]
    simp only [s58_10, s58_11, s58_14, s58_15, s58_16, s58_17, eq_self, ixk_some, bd_some, nl_n, nl_i, nl_r, Option.toList_some, Option.toList_none, List.cons_append, List.nil_append, k3, hix, k5 i q hq]
    by_cases he : q = key
    · subst he
      simp only [ne_eq, not_true_eq_false, if_false, s58_20, s58_21b0, s58_21b1, eq_self, ixk_some, bd_some, nl_n, nl_i, nl_r, Option.toList_some, Option.toList_none, List.cons_append, List.nil_append]
      simp
    · rw [if_pos he]
      simp only [s58_22i, s58_22r, s58_22n, s58_25, eq_self, ixk_some, bd_some, nl_n, nl_i, nl_r, Option.toList_some, Option.toList_none, List.cons_append, List.nil_append, s1]
      rw [ih (i + 1) hr (by omega)]
      have : ¬ key = q := fun z => he z.symm
      simp [this]
def keyd (s : ST) (key : Int32) : ST := if (c_ev s).contains key = true then s else if (c_ev s).length = 16 then s else c_ev_ s (c_ev s ++ [key])
theorem go_takeKey {s : ST} {m : MM} {key : Int32} (h : RC s m) : ∃ m', go 58 0 [some (vr 7 (some 0)), some (vi key), none] [] m = some (some (vi (b2 ((c_ev s).contains key || decide ((c_ev s).length < 16)))), m') ∧ RC (keyd s key) m' ∧ fg QZ m m' := by
  have h3 := h.2.2.1
  have L := key_loop (key := key) h3 (c_ev s) 0 (by simp) (Nat.zero_le _)
  obtain ⟨k1, k2, k3, k4, k5, k6⟩ := h3
  have e0 : ∀ r, go 58 2 [some (vr 7 (some 0)), some (vi key), some (vi (nI 0))] [] m = r → go 58 0 [some (vr 7 (some 0)), some (vi key), none] [] m = r := by
    intro r hr
    rw [← hr]
    simp only [s58_0, s58_1i, s58_1r, s58_1n, eq_self, ixk_some, bd_some, nl_n, nl_i, nl_r, Option.toList_some, Option.toList_none, List.cons_append, List.nil_append]
    rfl
  have e16 : (16 : Int32) = nI 16 := rfl
  unfold keyd
  cases hc : (c_ev s).contains key
  · rw [hc] at L
    simp only [Bool.false_eq_true, if_false, Bool.false_or] at L ⊢
    by_cases h16 : (c_ev s).length = 16
    · rw [if_pos h16]
      refine ⟨m, e0 _ ?_, h, fg_rf _ _⟩
      rw [L]
      simp only [s58_28, s58_29, s58_32, s58_34, eq_self, ixk_some, bd_some, nl_n, nl_i, nl_r, Option.toList_some, Option.toList_none, List.cons_append, List.nil_append, k1]
      rw [e16, if_neg (nI_nlt (by omega) (by omega))]
      simp only [s58_37, s58_38b0, s58_38b1, eq_self, ixk_some, bd_some, nl_n, nl_i, nl_r, Option.toList_some, Option.toList_none, List.cons_append, List.nil_append]
      simp [h16, b2]
    · rw [if_neg h16]
      have hlt : (c_ev s).length < 16 := by omega
      have hix := ix_nI (i := (c_ev s).length) (n := mN m 18 0) (by rw [k4]; omega) (by rw [k4]; decide)
      have s1 : nI (c_ev s).length + 1 = nI ((c_ev s).length + 1) := nI_1 _
      refine ⟨sI (sI m 18 0 (c_ev s).length key) 7 0 5 (nI ((c_ev s).length + 1)), e0 _ ?_, ?_, fg_fr (fr_tr (fr_sI m _ ⟨by decide, by decide, by decide⟩) (fr_sI _ _ ⟨by decide, by decide, by decide⟩))⟩
      · rw [L]
        simp only [s58_28, s58_29, s58_32, s58_34, eq_self, ixk_some, bd_some, nl_n, nl_i, nl_r, Option.toList_some, Option.toList_none, List.cons_append, List.nil_append, k1]
        rw [e16, if_pos (nI_lt hlt (by omega))]
        have k1' : mI (sI m 18 0 (c_ev s).length key) 7 0 5 = nI (c_ev s).length := k1
        simp only [s58_39, s58_40, s58_43, s58_44, s58_47, s58_48, s58_49, s58_50, s58_51, s58_54, s58_55, s58_56, s58_59, s58_60b0, s58_60b1, eq_self, ixk_some, bd_some, nl_n, nl_i, nl_r, Option.toList_some, Option.toList_none, List.cons_append, List.nil_append, k1, k3, hix, k1', s1]
        simp [hlt, b2]
      · obtain ⟨h1, h2, h3, h4, h5, h6, h7, h8⟩ := h
        refine ⟨h1, h2, ?_, h4, h5, h6, h7, h8⟩
        refine ⟨?_, ?_, k3, k4, fun i x hx => ?_, k6⟩
        · show nI _ = nI (c_ev s ++ [key]).length
          simp
        · show (c_ev s ++ [key]).length ≤ 16
          simp
          omega
        · have hx : (c_ev s ++ [key])[i]? = some x := hx
          show (if 18 = 18 ∧ 0 = 0 ∧ i = (c_ev s).length then key else mI m 18 0 i) = x
          by_cases hi : i < (c_ev s).length
          · rw [List.getElem?_append_left hi] at hx
            rw [if_neg (by omega)]
            exact k5 i x hx
          · rw [List.getElem?_append_right (by omega)] at hx
            by_cases h9 : i - (c_ev s).length = 0
            · rw [h9] at hx
              have : key = x := by simpa using hx
              rw [if_pos ⟨rfl, rfl, by omega⟩]
              exact this
            · rw [List.getElem?_eq_none (by simp; omega)] at hx
              cases hx
  · rw [hc] at L
    simp only [if_true, Bool.true_or] at L ⊢
    exact ⟨m, e0 _ L, h, fg_rf _ _⟩
def initM (m : MM) (k so : Nat) (a b : Int32) (v : Int64) : MM := sR (al (sL (sI (sI (sI (sI (sR (al m 9 40 40) 1 k 11 (some (mC m 9))) 1 k 0 (nI k)) 1 k 1 (nI so)) 1 k 2 a) 1 k 3 b) 1 k 4 v) 10 (if so = 1 then 40 else 0) (if so = 1 then 40 else 0)) 1 k 12 (some (mC m 10))
theorem go_initAsk {m : MM} {k so : Nat} {a b : Int32} {v : Int64} (hs : so ≤ 4) : go 0 0 [some (vr 1 (some k)), some (vi (nI k)), some (vi (nI so)), some (vi a), some (vi b), some (vl v), none] [] m = some (none, initM m k so a b v) := by
  by_cases h1 : so = 1
  · subst h1
    have e : nI 1 = 1 := rfl
    simp [s0_0, s0_1, s0_4, s0_5, s0_7k0, s0_7k1, s0_7k40, s0_9r, s0_9n, s0_12, s0_13, s0_14, s0_17, s0_18, s0_19, s0_22, s0_23, s0_24, s0_27, s0_28, s0_30, s0_33, s0_34, s0_36, s0_39, s0_40, s0_41, s0_42, s0_45, s0_47, s0_50, s0_51k0, s0_51k1, s0_51k40, s0_53r, s0_53n, s0_56, eq_self, ixk_some, bd_some, nl_n, nl_i, nl_r, Option.toList_some, Option.toList_none, List.cons_append, List.nil_append, e, initM]
    rfl
  · have e : ¬ nI so = 1 := fun z => h1 ((nI_eq (by omega) (by omega)).mp (show nI so = nI 1 from z))
    simp [s0_0, s0_1, s0_4, s0_5, s0_7k0, s0_7k1, s0_7k40, s0_9r, s0_9n, s0_12, s0_13, s0_14, s0_17, s0_18, s0_19, s0_22, s0_23, s0_24, s0_27, s0_28, s0_30, s0_33, s0_34, s0_36, s0_39, s0_40, s0_41, s0_42, s0_45, s0_47, s0_50, s0_51k0, s0_51k1, s0_51k40, s0_53r, s0_53n, s0_56, eq_self, ixk_some, bd_some, nl_n, nl_i, nl_r, Option.toList_some, Option.toList_none, List.cons_append, List.nil_append, e, initM, h1]
    rfl
def newM (m : MM) (k so : Nat) (a b : Int32) (v : Int64) : MM := sR (initM (al m 1 0 13) k so a b v) 17 0 k (some k)
theorem fgI {Q : Nat → Nat → Prop} {a m : MM} {r n k : Nat} {v : Int32} (h : fg Q a m) (hq : Q r n) : fg Q a (sI m r n k v) := fg_tr h (fg_sI m v hq)
theorem fgL {Q : Nat → Nat → Prop} {a m : MM} {r n k : Nat} {v : Int64} (h : fg Q a m) (hq : Q r n) : fg Q a (sL m r n k v) := fg_tr h (fg_sL m v hq)
theorem fgR {Q : Nat → Nat → Prop} {a m : MM} {r n k : Nat} {v : Option Nat} (h : fg Q a m) (hq : Q r n) : fg Q a (sR m r n k v) := fg_tr h (fg_sR m v hq)
theorem fgA {Q : Nat → Nat → Prop} {a m : MM} {r len sz : Nat} (h : fg Q a m) (hr : r = 1 ∨ r = 4 ∨ r = 5 ∨ r = 6 ∨ r = 9 ∨ r = 10 ∨ r = 12 ∨ r = 13 ∨ r = 14 ∨ r = 15) (hsz : sz ≤ 100) (hq : Q r (mC m r)) : fg Q a (al m r len sz) := fg_tr h (fg_al m hr hsz hq)
theorem new_fg {m : MM} {k so : Nat} {a b : Int32} {v : Int64} (h1 : mC m 1 = k) (h9 : mC m 9 = k) (h10 : mC m 10 = k) : fg (fun r n => ((r = 1 ∨ r = 9 ∨ r = 10) ∧ n = k) ∨ r = 17) m (newM m k so a b v) := by
  have q1 : (fun r n => ((r = 1 ∨ r = 9 ∨ r = 10) ∧ n = k) ∨ r = 17) 1 k := Or.inl ⟨Or.inl rfl, rfl⟩
  unfold newM initM
  refine fgR (fgR (fgA (fgL (fgI (fgI (fgI (fgI (fgR (fgA (fgA (fg_rf _ m) ?_ ?_ ?_) ?_ ?_ ?_) q1) q1) q1) q1) q1) q1) ?_ ?_ ?_) q1) (Or.inr rfl)
  · decide
  · decide
  · exact Or.inl ⟨Or.inl rfl, h1⟩
  · decide
  · decide
  · exact Or.inl ⟨Or.inr (Or.inl rfl), h9⟩
  · decide
  · by_cases h : so = 1 <;> simp [h]
  · exact Or.inl ⟨Or.inr (Or.inr rfl), h10⟩
theorem RC2_fg {a : AK} {m m' : MM} {j : Nat} {Q : Nat → Nat → Prop} (h : RC2 a m j) (hf : fg Q m m') (n1 : ¬ Q 1 j) (n9 : ¬ Q 9 j) (n10 : ¬ Q 10 j) : RC2 a m' j := by
  obtain ⟨g0, g1, g2, g3, g4, g5, g6, g7, g8, g9, g10, g11, g12, g13, g14, g15, g16⟩ := h
  have I := fun x => (hf.1 1 j x n1).1
  have R := fun x => (hf.1 1 j x n1).2.2
  exact ⟨by rw [I]; exact g0, by rw [I]; exact g1, by rw [I]; exact g2, by rw [I]; exact g3, by rw [(hf.1 1 j 4 n1).2.1]; exact g4, fun z => by rw [I]; exact g5 z, by rw [I]; exact g6, by rw [I]; exact g7, by rw [I]; exact g8, by rw [I]; exact g9, by rw [I]; exact g10, by rw [R]; exact g11, by rw [R]; exact g12, by rw [hf.2.1 _ _ n9]; exact g13, by rw [hf.2.1 _ _ n10]; exact g14,
    fun i x hx => by rw [(hf.1 9 j i n9).1]; exact g15 i x hx, fun z i x hx => by rw [(hf.1 10 j i n10).1]; exact g16 z i x hx⟩
theorem new_2 {m : MM} {k so : Nat} {a b : Int32} {v : Int64} (h1 : mC m 1 = k) (h9 : mC m 9 = k) (h10 : mC m 10 = k) : RC2 (ak0 so a b v) (newM m k so a b v) k := by
  have c9 : mC (al m 1 0 13) 9 = k := h9
  have c10 : ∀ A B C D E F G, mC (sL (sI (sI (sI (sI (sR (al (al m 1 0 13) 9 40 40) 1 k 11 A) 1 k 0 B) 1 k 1 C) 1 k 2 D) 1 k 3 E) 1 k 4 F) 10 = G → mC m 10 = G := fun _ _ _ _ _ _ _ z => z
  unfold newM initM ak0
  refine ⟨?_, ?_, ?_, ?_, ?_, fun _ => ?_, ?_, ?_, ?_, ?_, ?_, ?_, ?_, ?_, ?_, fun i x hx => ?_, fun _ i x hx => ?_⟩
  all_goals try simp only [mI_sI, mI_sR, mI_sL, mI_al, mL_sI, mL_sR, mL_sL, mL_al, mR_sI, mR_sR, mR_sL, mR_al, mN_sI, mN_sR, mN_sL, mN_al, mC_sI, mC_sR, mC_sL, mC_al, Nat.reduceEqDiff, false_and, and_false, if_false, true_and, and_self, if_true, and_true, h1, h9, h10]
  all_goals first | rfl | (simp [a_so, a_lo, a_hi, a_va, a_th, a_dn, a_lt, a_an, a_ps, a_nt, b2, nI_k0]; done) | (simp [a_wy] at hx; done) | (simp [a_no] at hx; done) | skip
theorem RC_new {s : ST} {m : MM} {so : Nat} {a b : Int32} {v : Int64} (h : RC s m) (hn : c_na s < 160) (hs : so ≤ 4) (hv : so = 4 → v = 0) : RC (c_ak_ (c_na_ s (c_na s + 1)) (up1 (c_ak s) (c_na s) (ak0 so a b v))) (sI (newM m (c_na s) so a b v) 7 0 3 (nI (c_na s + 1))) ∧ fK m (sI (newM m (c_na s) so a b v) 7 0 3 (nI (c_na s + 1))) := by
  obtain ⟨h1, h2, h3, h4, h5, h6, h7, h8⟩ := h
  obtain ⟨n1, n2, n3, n4, n5, n6, n7, n8, n9⟩ := h8
  have F := new_fg (so := so) (a := a) (b := b) (v := v) n7 n8 n9
  have A := new_2 (so := so) (a := a) (b := b) (v := v) n7 n8 n9
  have C : ∀ r, mC (newM m (c_na s) so a b v) r = if r = 10 then mC m 10 + 1 else if r = 9 then mC m 9 + 1 else if r = 1 then mC m 1 + 1 else mC m r := fun r => rfl
  have N17 : mN (newM m (c_na s) so a b v) 17 0 = mN m 17 0 := rfl
  have R17 : ∀ i, mR (newM m (c_na s) so a b v) 17 0 i = if i = c_na s then some (c_na s) else mR m 17 0 i := by
    intro i
    show (if 17 = 17 ∧ 0 = 0 ∧ i = c_na s then some (c_na s) else mR m 17 0 i) = _
    by_cases e : i = c_na s <;> simp [e]
  generalize newM m (c_na s) so a b v = m1 at *
  have q : ∀ r n, (((r = 1 ∨ r = 9 ∨ r = 10) ∧ n = c_na s) ∨ r = 17) → r = 1 ∨ r = 9 ∨ r = 10 ∨ r = 17 := fun r n z => by omega
  have p1 := RCp_fg h1 F (fun r n z => by have := q r n z; omega)
  have p2 := RCc_fg h2 F (fun r n z => by have := q r n z; omega)
  have p3 := RCk_fg h3 F (fun r n z => by have := q r n z; omega)
  have p5 := RCm_fg h5 F (fun r n z => by have := q r n z; omega)
  have p6 := RCq_fg h6 F (fun r n z => by have := q r n z; omega)
  have p7 := RCs_fg h7 F (fun r n z => by have := q r n z; omega)
  refine ⟨⟨p1, p2, p3, ?_, p5, p6, p7, ?_⟩, fg_tr (fg_le F (fun r n z => ?_)) (fg_sI _ _ ⟨by decide, by decide, by decide, fun z => by omega⟩), ?_⟩
  · obtain ⟨k1, k2, k3, k4, k5, k6, k7⟩ := h4
    refine ⟨?_, ?_, ?_, ?_, fun k hk => ?_, fun k hk => ?_, fun k hk => ?_⟩
    · show c_na s + 1 ≤ 160; omega
    · rfl
    · show mR m1 7 0 2 = some 0
      rw [(F.1 7 0 2 (fun z => by have := q 7 0 z; omega)).2.2]; exact k3
    · show mN m1 17 0 = 160
      rw [N17]; exact k4
    · have hk : k < c_na s + 1 := hk
      show mR m1 17 0 k = some k
      rw [R17]
      by_cases e : k = c_na s
      · rw [if_pos e, e]
      · rw [if_neg e]; exact k5 k (by omega)
    · have hk : k < c_na s + 1 := hk
      show RC2 (up1 (c_ak s) (c_na s) (ak0 so a b v) k) m1 k
      by_cases e : k = c_na s
      · subst e
        rw [up1_get]; exact A
      · have : up1 (c_ak s) (c_na s) (ak0 so a b v) k = c_ak s k := if_neg e
        rw [this]
        exact RC2_fg (k6 k (by omega)) F (fun z => by omega) (fun z => by omega) (fun z => by omega)
    · have hk : k < c_na s + 1 := hk
      show AKo (up1 (c_ak s) (c_na s) (ak0 so a b v) k)
      by_cases e : k = c_na s
      · subst e
        rw [up1_get]
        exact ⟨hs, by show 0 < 2 ^ 30; decide, by show 0 < 2 ^ 30; decide, rfl, rfl, (fun z => by cases z), fun z _ => hv z⟩
      · have : up1 (c_ak s) (c_na s) (ak0 so a b v) k = c_ak s k := if_neg e
        rw [this]
        exact k7 k (by omega)
  · exact ⟨(C 5).trans n1, (C 6).trans n2, (C 12).trans n3, (C 13).trans n4, (C 14).trans n5, (C 15).trans n6, (C 1).trans (show mC m 1 + 1 = c_na s + 1 by rw [n7]), (C 9).trans (show mC m 9 + 1 = c_na s + 1 by rw [n8]), (C 10).trans (show mC m 10 + 1 = c_na s + 1 by rw [n9])⟩
  · exact ⟨by omega, by omega, by omega, fun e => by omega⟩
  · show mR m1 3 0 3 = mR m 3 0 3
    exact (F.1 3 0 3 (fun z => by have := q 3 0 z; omega)).2.2
theorem askOf_eq (s : ST) (so i : Nat) (a b : Int32) (v : Int64) : askOf s so i a b v = if c_be s i ≠ 2 then (-2, s) else if c_na s = 160 ∨ ((so == 3 && !(c_ev s).contains a) = true ∧ (c_ev s).length = 16) then (-3, s) else
    (nI (c_na s), snda (c_ak_ (c_na_ (if so = 3 then keyd s a else s) (c_na s + 1)) (up1 (c_ak s) (c_na s) (ak0 so a b v))) (c_na s) i) := by
  unfold askOf
  by_cases h1 : c_be s i ≠ 2
  · rw [if_pos h1, if_pos h1]
  · rw [if_neg h1, if_neg h1]
    show (if c_na s = 160 ∨ ((so == 3 && !(c_ev s).contains a) = true ∧ (c_ev s).length = 16) then _ else _) = _
    by_cases h2 : c_na s = 160 ∨ ((so == 3 && !(c_ev s).contains a) = true ∧ (c_ev s).length = 16)
    · rw [if_pos h2, if_pos h2]
    · rw [if_neg h2, if_neg h2]
      unfold keyd
      by_cases h3 : so = 3
      · subst h3
        cases hc : (c_ev s).contains a
        · have h16 : ¬ (c_ev s).length = 16 := fun z => h2 (Or.inr ⟨by rw [hc]; rfl, z⟩)
          simp only [h16, if_false, if_true, Bool.false_eq_true]
          rfl
        · simp
      · have : (so == 3) = false := by simp [h3]
        simp [this, h3]
theorem go_startAsk {s : ST} {m : MM} {so : Nat} {p a b : Int32} {v : Int64} (h : RC s m) (hs : so ≤ 4) (hv : so = 4 → v = 0) (hl : (c_ms s).length < 192) :
    ∃ m', go 57 0 [some (vr 7 (some 0)), some (vi (nI so)), some (vi p), some (vi a), some (vi b), some (vl v), none, none, none] [] m = some (some (vi (o_ask2 s so p a b v).1), m') ∧ RC (o_ask2 s so p a b v).2 m' ∧ fg QZ m m' := by
  have hp := go_peerAt (p := p) h.1
  unfold o_ask2
  rcases isP_cases s p with h0 | ⟨h0, h1, h2⟩
  · rw [h0] at hp ⊢
    simp only [Bool.false_eq_true, if_false, false_and] at hp ⊢
    refine ⟨m, ?_, h, fg_rf _ _⟩
    simp only [s57_0, s57_1, s57_2, s57_5i, s57_5r, s57_5n, s57_7, s57_9n, s57_9s, s57_18, s57_19, eq_self, ixk_some, bd_some, nl_n, nl_i, nl_r, Option.toList_some, Option.toList_none, List.cons_append, List.nil_append, hp]
  · rw [h0] at hp ⊢
    simp only [if_true, true_and] at hp ⊢
    generalize p.toInt.toNat = i at *
    by_cases hab : a ≤ b
    · rw [if_pos hab, askOf_eq]
      have gb := (h.1.2.2.2.2.2.2 i h1).2.2.2.1
      have bb := h.1.2.2.2.2.2.1 i h1
      by_cases hb : c_be s i = 2
      · rw [if_neg (fun z => z hb)]
        have e2 : nI (c_be s i) = 2 := by rw [hb]; rfl
        obtain ⟨r1, r2, r3, r4, r5, r6, r7⟩ := h.2.2.2.1
        have e160 : (160 : Int32) = nI 160 := rfl
        have base : ∀ r, go 57 39 [some (vr 7 (some 0)), some (vi (nI so)), some (vi p), some (vi a), some (vi b), some (vl v), none, some (vr 6 (some i)), none] [vi 160, vi (nI (c_na s))] m = r → go 57 0 [some (vr 7 (some 0)), some (vi (nI so)), some (vi p), some (vi a), some (vi b), some (vl v), none, none, none] [] m = r := by
          intro r hr
          rw [← hr]
          simp only [s57_0, s57_1, s57_2, s57_5i, s57_5r, s57_5n, s57_7, s57_9n, s57_9s, s57_12, s57_14, s57_15, s57_20, s57_22, s57_25, s57_26, s57_32, s57_33, s57_36, eq_self, ixk_some, bd_some, nl_n, nl_i, nl_r, Option.toList_some, Option.toList_none, List.cons_append, List.nil_append, hp, if_pos hab, gb, e2, r2]
          simp
        -- the rest: a new ask is made
        have mk : ∀ s1 m1, RC s1 m1 → fg QZ m m1 → c_na s1 = c_na s → c_ak s1 = c_ak s → c_ms s1 = c_ms s → c_na s < 160 → ∃ m', go 57 58 [some (vr 7 (some 0)), some (vi (nI so)), some (vi p), some (vi a), some (vi b), some (vl v), none, some (vr 6 (some i)), none] [] m1 = some (some (vi (nI (c_na s))), m') ∧ RC (snda (c_ak_ (c_na_ s1 (c_na s + 1)) (up1 (c_ak s) (c_na s) (ak0 so a b v))) (c_na s) i) m' ∧ fg QZ m m' := by
          intro s1 m1 R1 F1 q1 q2 q3 hlt
          obtain ⟨R2, F2⟩ := RC_new (so := so) (a := a) (b := b) (v := v) R1 (by rw [q1]; exact hlt) hs hv
          rw [q1, q2] at R2
          rw [q1] at F2
          have n7 := R1.2.2.2.2.2.2.2.2.2.2.2.2.2.1
          rw [q1] at n7
          have r2' := R1.2.2.2.1.2.1
          rw [q1] at r2'
          have r3' := R1.2.2.2.1.2.2.1
          have r4' := R1.2.2.2.1.2.2.2.1
          obtain ⟨m3, b1, b2, b3⟩ := go_addAsk (k := c_na s) (p := i) R2 (by show c_na s < c_na s + 1; omega) (by show (c_ms s1).length < 192; rw [q3]; exact hl)
          refine ⟨m3, ?_, b2, fg_tr F1 (fg_tr (fz_fK F2) (fz_fK b3))⟩
          have i1 := go_initAsk (m := al m1 1 0 13) (k := c_na s) (a := a) (b := b) (v := v) hs
          have hix := ix_nI (i := c_na s) (n := mN (initM (al m1 1 0 13) (c_na s) so a b v) 17 0) (by show c_na s < mN m1 17 0; rw [r4']; exact hlt) (by show mN m1 17 0 < _; rw [r4']; decide)
          have x1 : mI (al m1 1 0 13) 7 0 3 = nI (c_na s) := r2'
          have x2 : mI (initM (al m1 1 0 13) (c_na s) so a b v) 7 0 3 = nI (c_na s) := r2'
          have x3 : mR (initM (al m1 1 0 13) (c_na s) so a b v) 7 0 2 = some 0 := r3'
          have x4 : mI (sR (initM (al m1 1 0 13) (c_na s) so a b v) 17 0 (c_na s) (some (c_na s))) 7 0 3 = nI (c_na s) := r2'
          have x5 : mR (sI (newM m1 (c_na s) so a b v) 7 0 3 (nI (c_na s + 1))) 7 0 6 = some 0 := R1.2.2.2.2.1.1
          have s1' : nI (c_na s) + 1 = nI (c_na s + 1) := nI_1 _
          have ed : sI (sR (initM (al m1 1 0 13) (c_na s) so a b v) 17 0 (c_na s) (some (c_na s))) 7 0 3 (nI (c_na s + 1)) = sI (newM m1 (c_na s) so a b v) 7 0 3 (nI (c_na s + 1)) := rfl
          have x6 : mI m3 1 (c_na s) 0 = nI (c_na s) := (b2.2.2.2.1.2.2.2.2.2.1 (c_na s) (by show c_na s < c_na s + 1; omega)).1
          simp only [s57_0, s57_1, s57_2, s57_5i, s57_5r, s57_5n, s57_7, s57_9n, s57_9s, s57_12, s57_14, s57_15, s57_18, s57_19, s57_20, s57_22, s57_25, s57_26, s57_29, s57_31, s57_32, s57_33, s57_36, s57_39, s57_42, s57_43, s57_44, s57_47, s57_48, s57_49, s57_52, s57_55, s57_57, s57_58, s57_61, s57_62, s57_63, s57_66, s57_67, s57_68, s57_70, s57_75i, s57_75r, s57_75n, s57_77, s57_78, s57_81, s57_82, s57_85, s57_87r, s57_87n, s57_88, s57_89, s57_90, s57_93, s57_94, s57_95, s57_98, s57_99, s57_102, s57_104, s57_106, s57_109, s57_111, s57_114, eq_self, ixk_some, bd_some, nl_n, nl_i, nl_r, Option.toList_some, Option.toList_none, List.cons_append, List.nil_append, n7, x1]
          rw [s57_72, i1]
          simp only [s57_0, s57_1, s57_2, s57_5i, s57_5r, s57_5n, s57_7, s57_9n, s57_9s, s57_12, s57_14, s57_15, s57_18, s57_19, s57_20, s57_22, s57_25, s57_26, s57_29, s57_31, s57_32, s57_33, s57_36, s57_39, s57_42, s57_43, s57_44, s57_47, s57_48, s57_49, s57_52, s57_55, s57_57, s57_58, s57_61, s57_62, s57_63, s57_66, s57_67, s57_68, s57_70, s57_75i, s57_75r, s57_75n, s57_77, s57_78, s57_81, s57_82, s57_85, s57_87r, s57_87n, s57_88, s57_89, s57_90, s57_93, s57_94, s57_95, s57_98, s57_99, s57_102, s57_104, s57_106, s57_109, s57_111, s57_114, eq_self, ixk_some, bd_some, nl_n, nl_i, nl_r, Option.toList_some, Option.toList_none, List.cons_append, List.nil_append, x2, x3, hix, x4, s1', ed, x5, b1, x6]
        by_cases hn : c_na s = 160
        · rw [if_pos (Or.inl hn)]
          refine ⟨m, base _ ?_, h, fg_rf _ _⟩
          rw [s57_39, e160, if_pos (nI_le (by omega) (by omega))]
          simp only [s57_55, s57_57, eq_self, ixk_some, bd_some, nl_n, nl_i, nl_r, Option.toList_some, Option.toList_none, List.cons_append, List.nil_append]
        · have hlt : c_na s < 160 := by omega
          have base2 : ∀ r, go 57 42 [some (vr 7 (some 0)), some (vi (nI so)), some (vi p), some (vi a), some (vi b), some (vl v), none, some (vr 6 (some i)), none] [] m = r → go 57 0 [some (vr 7 (some 0)), some (vi (nI so)), some (vi p), some (vi a), some (vi b), some (vl v), none, none, none] [] m = r := by
            intro r hr
            refine base _ ?_
            rw [s57_39, e160, if_neg (nI_ge hlt (by omega))]
            exact hr
          by_cases h3 : so = 3
          · subst h3
            obtain ⟨m1, t1, t2, t3⟩ := go_takeKey (key := a) h
            have c3 : ¬ ((nI 3 : Int32) ≠ 3) := fun z => z rfl
            rw [show ((3 == 3 : Bool) && !(c_ev s).contains a) = !(c_ev s).contains a by simp, if_pos rfl]
            cases hf : ((c_ev s).contains a || decide ((c_ev s).length < 16))
            · rw [hf, b2_f] at t1
              have hc : (c_ev s).contains a = false := by
                cases hx : (c_ev s).contains a
                · rfl
                · rw [hx] at hf; simp at hf
              have hle := h.2.2.1.2.1
              have h16 : (c_ev s).length = 16 := by
                rw [hc] at hf
                simp at hf
                omega
              rw [if_pos (Or.inr ⟨by rw [hc]; rfl, h16⟩)]
              have ek : keyd s a = s := by
                unfold keyd
                rw [hc, if_neg (by decide), if_pos h16]
              rw [ek] at t2
              refine ⟨m1, base2 _ ?_, t2, t3⟩
              simp only [s57_42, s57_43, s57_44, eq_self, ixk_some, bd_some, nl_n, nl_i, nl_r, Option.toList_some, Option.toList_none, List.cons_append, List.nil_append, if_neg c3]
              simp [s57_47, s57_48, s57_49, s57_52, s57_55, s57_57, eq_self, ixk_some, bd_some, nl_n, nl_i, nl_r, Option.toList_some, Option.toList_none, List.cons_append, List.nil_append, t1]
            · rw [hf, b2_t] at t1
              have h4 : ¬ (c_na s = 160 ∨ (!(c_ev s).contains a) = true ∧ (c_ev s).length = 16) := by
                intro z
                rcases z with z | ⟨z1, z2⟩
                · omega
                · have : (c_ev s).contains a = false := by simpa using z1
                  rw [this, z2] at hf
                  simp at hf
              rw [if_neg h4]
              have k1 : c_na (keyd s a) = c_na s ∧ c_ak (keyd s a) = c_ak s ∧ c_ms (keyd s a) = c_ms s := by
                unfold keyd
                cases (c_ev s).contains a
                · rw [if_neg (by decide)]
                  by_cases hx : (c_ev s).length = 16
                  · rw [if_pos hx]; exact ⟨rfl, rfl, rfl⟩
                  · rw [if_neg hx]; exact ⟨rfl, rfl, rfl⟩
                · rw [if_pos rfl]; exact ⟨rfl, rfl, rfl⟩
              obtain ⟨m3, d1, d2, d3⟩ := mk (keyd s a) m1 t2 t3 k1.1 k1.2.1 k1.2.2 hlt
              refine ⟨m3, base2 _ ?_, d2, d3⟩
              simp only [s57_42, s57_43, s57_44, eq_self, ixk_some, bd_some, nl_n, nl_i, nl_r, Option.toList_some, Option.toList_none, List.cons_append, List.nil_append, if_neg c3]
              simp only [s57_47, s57_48, s57_49, eq_self, ixk_some, bd_some, nl_n, nl_i, nl_r, Option.toList_some, Option.toList_none, List.cons_append, List.nil_append, t1]
              rw [← d1]
              simp [s57_52, eq_self, ixk_some, bd_some, nl_n, nl_i, nl_r, Option.toList_some, Option.toList_none, List.cons_append, List.nil_append]
          · have c3 : (nI so : Int32) ≠ 3 := fun z => h3 ((nI_eq (by omega) (by omega)).mp (show nI so = nI 3 from z))
            have h4 : ¬ (c_na s = 160 ∨ (so == 3 && !(c_ev s).contains a) = true ∧ (c_ev s).length = 16) := by
              intro z
              rcases z with z | ⟨z1, z2⟩
              · omega
              · simp [h3] at z1
            rw [if_neg h4, if_neg h3]
            obtain ⟨m3, d1, d2, d3⟩ := mk s m h (fg_rf _ _) rfl rfl rfl hlt
            refine ⟨m3, base2 _ ?_, d2, d3⟩
            rw [← d1]
            simp only [s57_42, s57_43, s57_44, eq_self, ixk_some, bd_some, nl_n, nl_i, nl_r, Option.toList_some, Option.toList_none, List.cons_append, List.nil_append, if_pos c3]
      · rw [if_pos hb]
        refine ⟨m, ?_, h, fg_rf _ _⟩
        have e2 : ¬ nI (c_be s i) = 2 := be_ne2 bb hb
        simp only [s57_0, s57_1, s57_2, s57_5i, s57_5r, s57_5n, s57_7, s57_9n, s57_9s, s57_12, s57_14, s57_15, s57_20, s57_22, s57_25, s57_26, s57_29, s57_31, eq_self, ixk_some, bd_some, nl_n, nl_i, nl_r, Option.toList_some, Option.toList_none, List.cons_append, List.nil_append, hp, if_pos hab, gb, e2, if_false]
    · rw [if_neg hab]
      refine ⟨m, ?_, h, fg_rf _ _⟩
      simp only [s57_0, s57_1, s57_2, s57_5i, s57_5r, s57_5n, s57_7, s57_9n, s57_9s, s57_12, s57_14, s57_15, s57_18, s57_19, eq_self, ixk_some, bd_some, nl_n, nl_i, nl_r, Option.toList_some, Option.toList_none, List.cons_append, List.nil_append, hp, if_neg hab]
