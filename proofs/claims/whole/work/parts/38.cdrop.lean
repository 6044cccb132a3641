/-! the class: dropPlacesFrom, comeIn, goOut, linkComes -/
def nop1 (s : ST) (i l : Nat) : ST :=
  let s1 := c_hs_ s (up2 (c_hs s) i l false)
  let s2 := c_kl_ s1 (up3 (c_kl s1) i l 0 none)
  c_kl_ s2 (up3 (c_kl s2) i l 1 none)
def nopF (s : ST) (i : Nat) : Nat → Nat → ST
  | 0, _ => s
  | d + 1, l => nopF (nop1 s i l) i d (l + 1)
/-- but for the sides beyond 1, which nothing reads -/
theorem nopF_eq (i : Nat) : ∀ d l (s : ST), nopF s i d l = c_kl_ (c_hs_ s (fun j k => if j = i ∧ l ≤ k ∧ k < l + d then false else c_hs s j k)) (fun j k e => if j = i ∧ (l ≤ k ∧ k < l + d) ∧ e < 2 then none else c_kl s j k e)
  | 0, l, s => by
    have h1 : (fun j k => if j = i ∧ l ≤ k ∧ k < l + 0 then false else c_hs s j k) = c_hs s := by
      funext j k; rw [if_neg (by omega)]
    have h2 : (fun j k e => if j = i ∧ (l ≤ k ∧ k < l + 0) ∧ e < 2 then none else c_kl s j k e) = c_kl s := by
      funext j k e; rw [if_neg (by omega)]
    rw [h1, h2]; rfl
  | d + 1, l, s => by
    show nopF (nop1 s i l) i d (l + 1) = _
    rw [nopF_eq i d (l + 1)]
    have h1 : (fun j k => if j = i ∧ l + 1 ≤ k ∧ k < l + 1 + d then false else c_hs (nop1 s i l) j k) = (fun j k => if j = i ∧ l ≤ k ∧ k < l + (d + 1) then false else c_hs s j k) := by
      funext j k
      show (if _ then _ else up2 (c_hs s) i l false j k) = _
      unfold up2
      by_cases e : j = i
      · by_cases e2 : k = l
        · rw [if_neg (by omega), if_pos ⟨e, e2⟩, if_pos (by omega)]
        · by_cases e3 : l + 1 ≤ k ∧ k < l + 1 + d
          · rw [if_pos ⟨e, e3⟩, if_pos (by omega)]
          · rw [if_neg (fun z => e3 z.2), if_neg (fun z => e2 z.2), if_neg (by omega)]
      · rw [if_neg (fun z => e z.1), if_neg (fun z => e z.1), if_neg (fun z => e z.1)]
    have h2 : (fun j k x => if j = i ∧ (l + 1 ≤ k ∧ k < l + 1 + d) ∧ x < 2 then none else c_kl (nop1 s i l) j k x) = (fun j k x => if j = i ∧ (l ≤ k ∧ k < l + (d + 1)) ∧ x < 2 then none else c_kl s j k x) := by
      funext j k x
      show (if _ then _ else up3 (up3 (c_kl s) i l 0 none) i l 1 none j k x) = _
      unfold up3
      by_cases e : j = i
      · by_cases e4 : x < 2
        · by_cases e2 : k = l
          · rw [if_neg (by omega)]
            rw [if_pos (show j = i ∧ (l ≤ k ∧ k < l + (d + 1)) ∧ x < 2 by omega)]
            by_cases e5 : x = 1
            · rw [if_pos ⟨e, e2, e5⟩]
            · rw [if_neg (fun z => e5 z.2.2), if_pos ⟨e, e2, by omega⟩]
          · by_cases e3 : l + 1 ≤ k ∧ k < l + 1 + d
            · rw [if_pos ⟨e, e3, e4⟩, if_pos (by omega)]
            · rw [if_neg (fun z => e3 z.2.1), if_neg (fun z => e2 z.2.1), if_neg (fun z => e2 z.2.1), if_neg (by omega)]
        · rw [if_neg (fun z => e4 z.2.2), if_neg (by omega), if_neg (by omega), if_neg (fun z => e4 z.2.2)]
      · rw [if_neg (fun z => e z.1), if_neg (fun z => e z.1), if_neg (fun z => e z.1), if_neg (fun z => e z.1)]
    rw [h1, h2]; rfl
theorem RCp_kl2 {s s' : ST} {m : MM} (h : RCp s m) (h1 : c_n s' = c_n s) (h2 : c_nm s' = c_nm s) (h3 : c_bt s' = c_bt s) (h4 : c_be s' = c_be s) (h5 : c_ld s' = c_ld s) (h6 : ∀ i l, l < 9 → c_hs s' i l = c_hs s i l) (h7 : ∀ i l d, l < 9 → d < 2 → c_kl s' i l d = c_kl s i l d) (h8 : ∀ i d, d < 2 → c_ol s' i d = c_ol s i d) : RCp s' m := by
  obtain ⟨k1, k2, k3, k4, k5, k6, k7⟩ := h
  refine ⟨by rw [h1]; exact k1, by rw [h1]; exact k2, k3, k4, fun i hi => k5 i (by rw [← h1]; exact hi), fun i hi => by rw [h4]; exact k6 i (by rw [← h1]; exact hi), fun i hi => ?_⟩
  obtain ⟨g0, g1, g2, g3, g4, g5, g6, g7, g8, g9, g10, g11, g12⟩ := k7 i (by rw [← h1]; exact hi)
  exact ⟨g0, by rw [h2]; exact g1, by rw [h3]; exact g2, by rw [h4]; exact g3, by rw [h5]; exact g4, g5, g6, by rw [h8 _ _ (by decide)]; exact g7, by rw [h8 _ _ (by decide)]; exact g8, g9, g10, g11, fun l hl => ⟨by rw [h6 i l hl]; exact (g12 l hl).1, by rw [h7 i l 0 hl (by decide)]; exact (g12 l hl).2.1, by rw [h7 i l 1 hl (by decide)]; exact (g12 l hl).2.2⟩⟩
theorem drop_loop {i : Nat} {a1 : AV} (ha : ∃ x, a1 = vi x) : ∀ d l (s : ST) (m : MM), RCp s m → i < c_n s → l + d = 9 → ∃ m', go 32 6 [some (vr 6 (some i)), some a1, some (vi (nI l))] [] m = some (none, m') ∧ RCp (nopF s i d l) m' ∧ fr (QE i) m m' := by
  obtain ⟨x, rfl⟩ := ha
  intro d
  induction d with
  | zero =>
    intro l s m h hi hl
    refine ⟨m, ?_, h, fr_rf _ _⟩
    rw [s32_6]
    simp only [s32_0, s32_1, s32_2, s32_5i, s32_5r, s32_5n, s32_7, s32_9, s32_12, s32_13, s32_16, s32_17, s32_18b0, s32_18b1, s32_19, s32_20, s32_23, s32_24, s32_25, s32_26, s32_27, s32_28, s32_29r, s32_29n, s32_30, s32_31, s32_34, s32_35, s32_36, s32_37, s32_38, s32_39, s32_40r, s32_40n, s32_41i, s32_41r, s32_41n, s32_44, s32_47, eq_self, ixk_some, bd_some, nl_n, nl_i, nl_r, Option.toList_some, Option.toList_none, List.cons_append, List.nil_append]
    rw [nI_k9, if_pos (nI_le (by omega) (by omega))]
  | succ d ih =>
    intro l s m h hi hl
    obtain ⟨g0, g1, g2, g3, g4, g5, g6, g7, g8, g9, g10, g11, g12⟩ := h.2.2.2.2.2.2 i hi
    have r1 : RCp (c_hs_ s (up2 (c_hs s) i l false)) (sI m 14 i l 0) := RCp_hs (b := false) h
    have r2 := RCp_kl (i := i) (l := l) (d := 0) (o := none) r1 (by decide)
    have r3 := RCp_kl (i := i) (l := l) (d := 1) (o := none) r2 (by decide)
    obtain ⟨m', f1, f2, f3⟩ := ih (l + 1) (nop1 s i l) _ r3 hi (by omega)
    have i0 := ix_nI (i := l) (n := 9) (by omega) (by decide)
    have i1 := ix_nI (i := 2 * l + 0) (n := 18) (by omega) (by decide)
    have i2 := ix_nI (i := 2 * l + 1) (n := 18) (by omega) (by decide)
    have e0 : nI l * 2 + 0 = nI (2 * l + 0) := ix2 (l := l) (d := 0) (by decide)
    have e1 : nI l * 2 + 1 = nI (2 * l + 1) := ix2 (l := l) (d := 1) (by decide)
    refine ⟨m', ?_, f2, fr_tr (fr_tr (fr_sI m 0 ⟨Or.inr (Or.inl rfl), rfl⟩) (fr_tr (fr_sR _ none ⟨Or.inr (Or.inr rfl), rfl⟩) (fr_sR _ none ⟨Or.inr (Or.inr rfl), rfl⟩))) f3⟩
    have g6' : mR (sR (sI m 14 i l 0) 15 i (2 * l + 0) none) 6 i 6 = some i := by rw [mR_sR, if_neg (by omega)]; exact g6
    rw [s32_6]
    simp only [s32_0, s32_1, s32_2, s32_5i, s32_5r, s32_5n, s32_7, s32_9, s32_12, s32_13, s32_16, s32_17, s32_18b0, s32_18b1, s32_19, s32_20, s32_23, s32_24, s32_25, s32_26, s32_27, s32_28, s32_29r, s32_29n, s32_30, s32_31, s32_34, s32_35, s32_36, s32_37, s32_38, s32_39, s32_40r, s32_40n, s32_41i, s32_41r, s32_41n, s32_44, s32_47, eq_self, ixk_some, bd_some, nl_n, nl_i, nl_r, Option.toList_some, Option.toList_none, List.cons_append, List.nil_append, g5, g6, g6', g10, g11, mR_sI, mN_sI, mN_sR, i0, e0, e1, i1, i2]
    rw [nI_k9, if_neg (nI_ge (by omega) (by omega)), nI_1]
    exact f1
theorem go_drop {s : ST} {m : MM} {i l : Nat} (h : RCp s m) (hi : i < c_n s) (hl : l ≤ 9) : ∃ m', go 32 0 [some (vr 6 (some i)), some (vi (nI l)), none] [] m = some (none, m') ∧ RCp (nop s i l) m' ∧ fr (QE i) m m' := by
  obtain ⟨m', f1, f2, f3⟩ := drop_loop (i := i) (a1 := vi (nI l)) ⟨_, rfl⟩ (9 - l) l s m h hi (by omega)
  refine ⟨m', ?_, ?_, f3⟩
  · simp only [s32_0, s32_1, s32_2, s32_5i, s32_5r, s32_5n, eq_self, ixk_some, bd_some, nl_n, nl_i, nl_r, Option.toList_some, Option.toList_none, List.cons_append, List.nil_append]
    rw [if_neg (nI_pos (by omega))]
    exact f1
  · rw [nopF_eq] at f2
    refine RCp_kl2 f2 rfl rfl rfl rfl rfl (fun j k hk => ?_) (fun j k d hk hd => ?_) (fun _ _ _ => rfl)
    · show (if j = i ∧ l ≤ k ∧ k < 9 then false else c_hs s j k) = (if j = i ∧ l ≤ k ∧ k < l + (9 - l) then false else c_hs s j k)
      have : (j = i ∧ l ≤ k ∧ k < 9) ↔ (j = i ∧ l ≤ k ∧ k < l + (9 - l)) := by omega
      simp only [this]
    · show (if j = i ∧ l ≤ k ∧ k < 9 then none else c_kl s j k d) = (if j = i ∧ (l ≤ k ∧ k < l + (9 - l)) ∧ d < 2 then none else c_kl s j k d)
      have : (j = i ∧ l ≤ k ∧ k < 9) ↔ (j = i ∧ (l ≤ k ∧ k < l + (9 - l)) ∧ d < 2) := by omega
      simp only [this]
theorem RCq_frE {s : ST} {m m' : MM} {i : Nat} (h : RCq s m) (hf : fr (QE i) m m') : RCq s m' := by
  have key : ∀ p L, RCl m p L → RCl m' p L := by
    intro p L hL
    obtain ⟨⟨h1, h2, h3, h4, h5, h6⟩, h7⟩ := hL
    have n5 : ¬ QE i 5 p := fun z => by rcases z.1 with z | z | z <;> cases z
    have n12 : ¬ QE i 12 p := fun z => by rcases z.1 with z | z | z <;> cases z
    have n13 : ¬ QE i 13 p := fun z => by rcases z.1 with z | z | z <;> cases z
    refine ⟨⟨by rw [(hf.1 5 p 0 n5).2.2]; exact h1, by rw [(hf.1 5 p 1 n5).2.2]; exact h2, by rw [(hf.1 5 p 2 n5).1]; exact h3, h4, by rw [hf.2.2.1]; exact h5, by rw [hf.2.2.1]; exact h6⟩, fun j x hx => ?_⟩
    rw [(hf.1 12 p j n12).1, (hf.1 13 p j n13).2.1]
    exact h7 j x hx
  exact ⟨key 0 _ h.1, fun j hj => key (j + 1) _ (h.2 j hj)⟩
theorem go_goOut {s : ST} {m : MM} {i : Nat} (h : RCp s m) (hi : i < c_n s) : ∃ m', go 35 0 [some (vr 6 (some i))] [] m = some (none, m') ∧ RCp (nop (c_be_ (c_ol_ s (fun j d => if j = i then lnk s j 0 d else c_ol s j d)) (up1 (c_be s) i 0)) i 0) m' ∧ fr (QE i) m m' := by
  have n0 := go_next h hi (show 0 < 9 by decide) (d := 0) (by decide)
  have r1 := RCp_ol (i := i) (d := 0) (o := lnk s i 0 0) h (by decide)
  have n1 := go_next r1 hi (show 0 < 9 by decide) (d := 1) (by decide)
  have r2 := RCp_ol (i := i) (d := 1) (o := lnk s i 0 1) r1 (by decide)
  obtain ⟨m', f1, f2, f3⟩ := go_drop (l := 0) r2 hi (by decide)
  have r3 := RCp_be (i := i) (b := 0) f2 (by decide)
  simp only [← nI_k0, ← nI_k1] at n0 n1 f1
  have n1 : go 27 0 [some (vr 6 (some i)), some (vi 0), some (vi 1)] [] (sR m 6 i (7 + 0) (lnk s i 0 0)) = some (some (vr (tgN s i 0) (lnk s i 0 1)), sR m 6 i (7 + 0) (lnk s i 0 0)) := n1
  refine ⟨sI m' 6 i 3 (nI 0), ?_, ?_, fr_tr (fr_sR m _ ⟨Or.inl rfl, rfl⟩) (fr_tr (fr_sR _ _ ⟨Or.inl rfl, rfl⟩) (fr_tr f3 (fr_sI _ _ ⟨Or.inl rfl, rfl⟩)))⟩
  · have t0 := tgN_ok s i 0 0
    have t1 := tgN_ok s i 0 1
    simp only [s35_0, s35_1, s35_2, s35_3, s35_4, eq_self, ixk_some, bd_some, nl_n, nl_i, nl_r, Option.toList_some, Option.toList_none, List.cons_append, List.nil_append, n0]
    have p0 : ∀ st, go 35 7 [some (vr 6 (some i))] (.inr (.inr (tgN s i 0, lnk s i 0 0)) :: .inr (.inr (6, some i)) :: st) m = go 35 10 [some (vr 6 (some i))] st (sR m 6 i 7 (lnk s i 0 0)) := by
      intro st
      rcases t0 with t0 | t0
      · rw [t0]; exact s35_7n
      · rw [t0]; exact s35_7r
    rw [p0]
    simp only [s35_10, s35_11, s35_12, s35_13, s35_14, eq_self, ixk_some, bd_some, nl_n, nl_i, nl_r, Option.toList_some, Option.toList_none, List.cons_append, List.nil_append, n1]
    have p1 : ∀ st m2, go 35 17 [some (vr 6 (some i))] (.inr (.inr (tgN s i 0, lnk s i 0 1)) :: .inr (.inr (6, some i)) :: st) m2 = go 35 20 [some (vr 6 (some i))] st (sR m2 6 i 8 (lnk s i 0 1)) := by
      intro st m2
      rcases t1 with t1 | t1
      · rw [t1]; exact s35_17n
      · rw [t1]; exact s35_17r
    rw [p1]
    simp only [s35_20, s35_21, s35_22, s35_25, s35_26, s35_27, s35_30, eq_self, ixk_some, bd_some, nl_n, nl_i, nl_r, Option.toList_some, Option.toList_none, List.cons_append, List.nil_append, f1]
    rfl
  · refine RCp_kl2 r3 rfl rfl rfl rfl rfl (fun _ _ _ => rfl) (fun _ _ _ _ _ => rfl) (fun j d hd => ?_)
    show (if j = i then lnk s j 0 d else c_ol s j d) = up2 (up2 (c_ol s) i 0 (lnk s i 0 0)) i 1 (lnk s i 0 1) j d
    unfold up2
    by_cases e : j = i
    · subst e
      match d, hd with
      | 0, _ => simp
      | 1, _ => simp
    · simp [e]
