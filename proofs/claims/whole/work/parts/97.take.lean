/-! a message of the change is taken: all that must hold -/
def trC (s : ST) (i : Nat) (g : MSG) : Prop := (g_so g = 5 ∨ g_so g = 6 ∨ g_so g = 10 → ∀ g', g' ∈ (c_ms s).eraseIdx i → ¬ (g_so g' = 6 ∨ g_so g' = 10)) ∧ (g_so g = 6 ∨ g_so g = 9 → g_to g = c_cp s ∧ (∀ x, g_lf g = some x → x < c_n s) ∧ ∀ x, g_rg g = some x → x < c_n s) ∧ (g_so g = 7 → ∀ x, (if g_sd g = 0 then g_lf g else g_rg g) = some x → x < c_n s)
theorem no6 {s : ST} {i : Nat} {g : MSG} (hN : asN (c_ms s)) (hT : tkL (tkn s i g) = []) : ∀ g', g' ∈ (c_ms s).eraseIdx i → ¬ (g_so g' = 6 ∨ g_so g' = 10) := by
  intro g' hg' x
  have a := (hN g' (List.mem_of_mem_eraseIdx hg')).1.mpr (by omega)
  have : g' ∈ tkL (tkn s i g) := by
    unfold tkL
    rw [(tkn_f s i g).2.2.2.2.2.1]
    exact List.mem_filter.mpr ⟨hg', isTk_iff.mpr ⟨a, by omega⟩⟩
  rw [hT] at this
  cases this
theorem cc5 {s : ST} {g : MSG} (h : g_so g = 5) : comesCh s g = comesJoin s (g_to g) := if_pos h
theorem cc6 {s : ST} {g : MSG} (h : g_so g = 6) : comesCh s g = linked (gvS s (c_cp s) (g_lf g) (g_rg g)) (c_cp s) 0 := (if_neg (by omega)).trans (if_pos h)
theorem cc7 {s : ST} {g : MSG} (h : g_so g = 7) : comesCh s g = comesLink s (g_to g) ((g_lv g).getD 0) (g_sd g) (whoOf g) := (if_neg (by omega)).trans ((if_neg (by omega)).trans (if_pos h))
theorem cc8 {s : ST} {g : MSG} (h : g_so g = 8) : comesCh s g = comesSeek s (g_to g) ((g_lv g).getD 0) (g_sd g) := (if_neg (by omega)).trans ((if_neg (by omega)).trans ((if_neg (by omega)).trans (if_pos h)))
theorem cc9 {s : ST} {g : MSG} (h : g_so g = 9) : comesCh s g = linked (plc s (c_cp s) ((g_lv g).getD 0) (g_lf g) (g_rg g)) (c_cp s) ((g_lv g).getD 0) := (if_neg (by omega)).trans ((if_neg (by omega)).trans ((if_neg (by omega)).trans ((if_neg (by omega)).trans (if_pos h))))
theorem cc10 {s : ST} {g : MSG} (h : g_so g = 10) : comesCh s g = bgS s (up1 (c_pr s) (g_to g) (inl1 (c_pr s (g_to g)) (c_bg s))) [] := (if_neg (by omega)).trans ((if_neg (by omega)).trans ((if_neg (by omega)).trans ((if_neg (by omega)).trans (if_neg (by omega)))))
theorem tk_b {s : ST} {i : Nat} {g : MSG} (h : I_b s) : I_b (tkn s i g) := by
  obtain ⟨t1, t2, t3, t4, t5, t6, t7, t8, t9, t10, t11, t12, t13, t14, t15, t16⟩ := tkn_f s i g
  exact ib_cg t5 t12 t13 t7 h
theorem tk_p {s : ST} {i : Nat} {g : MSG} (h : I_p s) : I_p (tkn s i g) := by
  obtain ⟨t1, t2, t3, t4, t5, t6, t7, t8, t9, t10, t11, t12, t13, t14, t15, t16⟩ := tkn_f s i g
  exact ip_cg t14 t8 t4 t9 h
theorem tk_q {t : Nat} {s : ST} {i : Nat} {g : MSG} (h : I_q t s) : I_q t (tkn s i g) := by
  obtain ⟨t1, t2, t3, t4, t5, t6, t7, t8, t9, t10, t11, t12, t13, t14, t15, t16⟩ := tkn_f s i g
  unfold I_q at *
  rw [t10, t11, t9, t14, t6]
  exact ⟨h.1, mq_er i h.2⟩
def stO (t : Nat) (s : ST) (i : Nat) (g : MSG) : Prop := GCh (tkn s i g) g ∧ trC s i g ∧ I_b (comesCh (tkn s i g) g) ∧ I_p (comesCh (tkn s i g) g) ∧ I_q t (comesCh (tkn s i g) g) ∧ I_c (comesCh (tkn s i g) g)
theorem st_c7 {t : Nat} {s : ST} {i : Nat} {g : MSG} (h : I_0 t s) (hg : (c_ms s)[i]? = some g) (hn : g_as g = none) (hc : I_c s) (g2 : g_so g = 7) : stO t s i g := by
  obtain ⟨l, l1, l2, l3, l4, l5, l6⟩ := st_link h.1 hc hg hn g2
  obtain ⟨t1, t2, t3, t4, t5, t6, t7, t8, t9, t10, t11, t12, t13, t14, t15, t16⟩ := tkn_f s i g
  obtain ⟨c1, c2, -⟩ := ic_na hc
  have e : comesCh (tkn s i g) g = comesLink (tkn s i g) (g_to g) l (g_sd g) (whoOf g) := by
    rw [cc7 g2, l1]
    rfl
  obtain ⟨f1, f2, f3, f4, f5, f6, f7, f8, f9, f10, f11⟩ := cl_f (tkn s i g) (g_to g) l (g_sd g) (whoOf g)
  have n1 : c_n (comesLink (tkn s i g) (g_to g) l (g_sd g) (whoOf g)) = c_n (tkn s i g) := by
    show (vw (comesLink (tkn s i g) (g_to g) l (g_sd g) (whoOf g))).1 = (vw (tkn s i g)).1
    rw [f5]
  unfold stO
  rw [e]
  refine ⟨⟨by rw [t1]; exact c2, by rw [t3, t14]; exact c1, by rw [t14]; exact (h.2.2.1.2.1 g (List.mem_of_getElem? hg)).1, l3, by omega, fun z => by omega, fun z => by omega, fun _ => ⟨l, l1, l2⟩, fun z => by omega, fun z => by omega, fun z => by omega⟩, ⟨fun z => by omega, fun z => by omega, fun _ => l4⟩, l6, ip_cg n1 f8 f4 f9 (tk_p h.2.1), ?_, l5⟩
  have q := tk_q (i := i) (g := g) h.2.2.1
  unfold I_q at *
  rw [f10, f11, f9, n1, f6]
  exact q
theorem st_c1 {t : Nat} {s : ST} {i : Nat} {g : MSG} (h : I_0 t s) (hg : (c_ms s)[i]? = some g) (ht : isTk g = true) (hc : ph1 s) : stO t s i g := by
  obtain ⟨t1, t2, t3, t4, t5, t6, t7, t8, t9, t10, t11, t12, t13, t14, t15, t16⟩ := tkn_f s i g
  have lk : isLk g = false := by
    cases x : isLk g
    · rfl
    · exact absurd (isLk_iff.mp x).2 (isTk_iff.mp ht).2
  have hN := i0_asN h
  have hb := tk_b (i := i) (g := g) h.1
  have hp := tk_p (i := i) (g := g) h.2.1
  have hq := tk_q (i := i) (g := g) h.2.2.1
  obtain ⟨a1, a2, a3, a4, a5⟩ := hc
  have n4 := nc_take a4 hg lk
  rcases a5 with ⟨b1, w, e, w1, w2⟩ | ⟨a, b, e, na, nb⟩
  · obtain ⟨eg, hT⟩ := tk_tok hg ht e
    have ng := no6 hN hT
    have r := st_J (w := w) hb hp hq (t1.trans a1) (t2.trans a2) (by rw [t15, t3]; exact a3) n4 (t4.trans b1) hT (by rw [t14]; exact w1) (by rw [t15]; exact w2)
    have c5 : comesCh (tkn s i g) g = comesJoin (tkn s i g) w := by rw [cc5 (by rw [eg]; rfl), eg]; rfl
    unfold stO
    rw [c5]
    refine ⟨?_, ?_, r⟩
    · have x0 : 0 < c_ck (tkn s i g) := by rw [t1, a1]; decide
      have x1 : c_cp (tkn s i g) < c_n (tkn s i g) := by rw [t3, t14]; exact a4.1
      have x2 : w < c_n (tkn s i g) := by rw [t14]; exact w1
      have x3 : srt (c_pr (tkn s i g) w) := (hp.1 w x2).1
      have x4 : c_bg (tkn s i g) = [] := t4.trans b1
      have x5 : awy (tkn s i g) w = false := awy_in (by rw [t15]; exact w2)
      generalize tkn s i g = s1 at *
      subst eg
      exact ⟨x0, x1, x2, (show (0 : Nat) < 2 by decide), Or.inl rfl, fun _ => ⟨x3, x4, fun _ => x5⟩, fun z => absurd (show (5 : Nat) = 6 from z) (by decide), fun z => absurd (show (5 : Nat) = 7 from z) (by decide), fun z => absurd (show (5 : Nat) = 8 from z) (by decide), fun z => absurd (show (5 : Nat) = 9 from z) (by decide), fun z => absurd (show (5 : Nat) = 10 from z) (by decide)⟩
    · subst eg
      exact ⟨fun _ => ng, fun z => (by rcases z with z | z <;> cases z), fun z => (by cases z)⟩
  · obtain ⟨eg, hT⟩ := tk_tok hg ht e
    have ng := no6 hN hT
    have r := st_G (a := a) (b := b) hb hp hq (t1.trans a1) (t2.trans a2) n4 hT (by rw [t5, t3]; exact na) (by rw [t5, t3]; exact nb)
    have c6 : comesCh (tkn s i g) g = linked (gvS (tkn s i g) (c_cp (tkn s i g)) a b) (c_cp (tkn s i g)) 0 := by rw [cc6 (by rw [eg]; rfl), eg]; rfl
    unfold stO
    rw [c6]
    refine ⟨?_, ?_, r⟩
    · have x0 : 0 < c_ck (tkn s i g) := by rw [t1, a1]; decide
      have x1 : c_cp (tkn s i g) < c_n (tkn s i g) := by rw [t3, t14]; exact a4.1
      have x2 : c_cp s < c_n (tkn s i g) := by rw [t14]; exact a4.1
      have x3 : (inl1 [] (c_bg (tkn s i g))).length ≤ 16 := Nat.le_trans (pr_len (pr_inl _ _ (pr_nil _) hp.2.1.2)) hp.2.2
      generalize tkn s i g = s1 at *
      subst eg
      exact ⟨x0, x1, x2, (show (0 : Nat) < 2 by decide), Or.inr (Or.inl rfl), fun z => absurd (show (6 : Nat) = 5 from z) (by decide), fun _ => x3, fun z => absurd (show (6 : Nat) = 7 from z) (by decide), fun z => absurd (show (6 : Nat) = 8 from z) (by decide), fun z => absurd (show (6 : Nat) = 9 from z) (by decide), fun z => absurd (show (6 : Nat) = 10 from z) (by decide)⟩
    · subst eg
      exact ⟨fun _ => ng, fun _ => ⟨rfl, fun x e => nu_lt na e, fun x e => nu_lt nb e⟩, fun z => (by cases z)⟩
theorem st_c2 {t : Nat} {s : ST} {i k : Nat} {g : MSG} (h : I_0 t s) (hg : (c_ms s)[i]? = some g) (ht : isTk g = true) (hc : ph2 s k) : stO t s i g := by
  obtain ⟨t1, t2, t3, t4, t5, t6, t7, t8, t9, t10, t11, t12, t13, t14, t15, t16⟩ := tkn_f s i g
  have lk : isLk g = false := by
    cases x : isLk g
    · rfl
    · exact absurd (isLk_iff.mp x).2 (isTk_iff.mp ht).2
  have hN := i0_asN h
  have hb := tk_b (i := i) (g := g) h.1
  have hp := tk_p (i := i) (g := g) h.2.1
  have hq := tk_q (i := i) (g := g) h.2.2.1
  obtain ⟨a1, a2, a3, k1, k2, a4, a6, a5⟩ := hc
  have n4 := nc_take a4 hg lk
  have u4 : netU (vw (tkn s i g)) (c_hs (tkn s i g)) (c_kl (tkn s i g)) k (c_cp (tkn s i g)) := by rw [t5, t12, t13, t3]; exact a6
  have x0 : 0 < c_ck (tkn s i g) := by rw [t1]; omega
  have x1 : c_cp (tkn s i g) < c_n (tkn s i g) := by rw [t3, t14]; exact a4.1
  rcases a5 with ⟨e, -⟩ | ⟨l, z, d, k3, k4, e, sk⟩ | ⟨a, b, k3, e, na, nb⟩
  · exfalso
    have : g ∈ tkL s := List.mem_filter.mpr ⟨List.mem_of_getElem? hg, ht⟩
    rw [e] at this
    cases this
  · obtain ⟨eg, hT⟩ := tk_tok hg ht e
    rw [k3] at n4 u4
    have r := st_S (z := z) (d := d) hb hp hq (by rw [t1]; exact a1) (t2.trans a2) (by rw [t15, t3]; exact a3) k4 n4 u4 hT (by rw [t5, t3]; exact sk)
    have c8 : comesCh (tkn s i g) g = comesSeek (tkn s i g) z l d := by rw [cc8 (by rw [eg]; rfl), eg]; rfl
    unfold stO
    rw [c8]
    refine ⟨?_, ?_, r⟩
    · have x2 : z < c_n (tkn s i g) := by rw [t14]; exact sk.1
      have x3 : d < 2 := sk.2.2.2.1
      generalize tkn s i g = s1 at *
      subst eg
      exact ⟨x0, x1, x2, x3, Or.inr (Or.inr (Or.inr (Or.inl rfl))), fun z => absurd (show (8 : Nat) = 5 from z) (by decide), fun z => absurd (show (8 : Nat) = 6 from z) (by decide), fun z => absurd (show (8 : Nat) = 7 from z) (by decide), fun _ => ⟨l, rfl, k4⟩, fun z => absurd (show (8 : Nat) = 9 from z) (by decide), fun z => absurd (show (8 : Nat) = 10 from z) (by decide)⟩
    · subst eg
      exact ⟨fun z => (by rcases z with z | z | z <;> cases z), fun z => (by rcases z with z | z <;> cases z), fun z => (by cases z)⟩
  · obtain ⟨eg, hT⟩ := tk_tok hg ht e
    have r := st_T (a := a) (b := b) hb hp hq (by rw [t1]; exact a1) (t2.trans a2) (by rw [t15, t3]; exact a3) k3 n4 u4 hT (by rw [t5, t3]; exact na) (by rw [t5, t3]; exact nb)
    have c9 : comesCh (tkn s i g) g = linked (plc (tkn s i g) (c_cp (tkn s i g)) k a b) (c_cp (tkn s i g)) k := by rw [cc9 (by rw [eg]; rfl), eg]; rfl
    unfold stO
    rw [c9]
    refine ⟨?_, ?_, r⟩
    · have x2 : c_cp s < c_n (tkn s i g) := by rw [t14]; exact a4.1
      generalize tkn s i g = s1 at *
      subst eg
      exact ⟨x0, x1, x2, (show (0 : Nat) < 2 by decide), Or.inr (Or.inr (Or.inr (Or.inr (Or.inl rfl)))), fun z => absurd (show (9 : Nat) = 5 from z) (by decide), fun z => absurd (show (9 : Nat) = 6 from z) (by decide), fun z => absurd (show (9 : Nat) = 7 from z) (by decide), fun z => absurd (show (9 : Nat) = 8 from z) (by decide), fun _ => ⟨k, rfl, k3⟩, fun z => absurd (show (9 : Nat) = 10 from z) (by decide)⟩
    · subst eg
      exact ⟨fun z => (by rcases z with z | z | z <;> cases z), fun _ => ⟨rfl, fun x e => nu_lt na e, fun x e => nu_lt nb e⟩, fun z => (by cases z)⟩
theorem st_c4 {t : Nat} {s : ST} {i : Nat} {g : MSG} (h : I_0 t s) (hg : (c_ms s)[i]? = some g) (ht : isTk g = true) (hc : ph4 s) : stO t s i g := by
  obtain ⟨t1, t2, t3, t4, t5, t6, t7, t8, t9, t10, t11, t12, t13, t14, t15, t16⟩ := tkn_f s i g
  have lk : isLk g = false := by
    cases x : isLk g
    · rfl
    · exact absurd (isLk_iff.mp x).2 (isTk_iff.mp ht).2
  have hN := i0_asN h
  have hb := tk_b (i := i) (g := g) h.1
  have hp := tk_p (i := i) (g := g) h.2.1
  have hq := tk_q (i := i) (g := g) h.2.2.1
  obtain ⟨a1, a2, a3, a4, a5⟩ := hc
  have n4 := nc_take a4 hg lk
  rcases a5 with e | ⟨w, e, w1⟩
  · exfalso
    have : g ∈ tkL s := List.mem_filter.mpr ⟨List.mem_of_getElem? hg, ht⟩
    rw [e] at this
    cases this
  · obtain ⟨eg, hT⟩ := tk_tok hg ht e
    have ng := no6 hN hT
    have x2 : w < c_n (tkn s i g) := by rw [t14]; exact w1
    have r := st_H (w := w) hb hp hq (t1.trans a1) (t2.trans a2) (by rw [t15, t3]; exact a3) n4 hT x2
    have c10 : comesCh (tkn s i g) g = bgS (tkn s i g) (up1 (c_pr (tkn s i g)) w (inl1 (c_pr (tkn s i g) w) (c_bg (tkn s i g)))) [] := by rw [cc10 (by rw [eg]; rfl), eg]; rfl
    unfold stO
    rw [c10]
    refine ⟨?_, ?_, r⟩
    · have x0 : 0 < c_ck (tkn s i g) := by rw [t1, a1]; decide
      have x1 : c_cp (tkn s i g) < c_n (tkn s i g) := by rw [t3, t14]; exact a4.1
      have x3 : (inl1 (c_pr (tkn s i g) w) (c_bg (tkn s i g))).length ≤ 16 := Nat.le_trans (pr_len (pr_inl _ _ (hp.1 w x2) hp.2.1.2)) hp.2.2
      generalize tkn s i g = s1 at *
      subst eg
      exact ⟨x0, x1, x2, (show (0 : Nat) < 2 by decide), Or.inr (Or.inr (Or.inr (Or.inr (Or.inr rfl)))), fun z => absurd (show (10 : Nat) = 5 from z) (by decide), fun z => absurd (show (10 : Nat) = 6 from z) (by decide), fun z => absurd (show (10 : Nat) = 7 from z) (by decide), fun z => absurd (show (10 : Nat) = 8 from z) (by decide), fun z => absurd (show (10 : Nat) = 9 from z) (by decide), fun _ => x3⟩
    · subst eg
      exact ⟨fun _ => ng, fun z => (by rcases z with z | z <;> cases z), fun z => (by cases z)⟩
theorem st_ch {t : Nat} {s : ST} {i : Nat} {g : MSG} (h : I_0 t s) (hg : (c_ms s)[i]? = some g) (hn : g_as g = none) : stO t s i g := by
  rcases h.2.2.2 with x | x
  · exact absurd hn (x.2.2.2.1 g (List.mem_of_getElem? hg))
  · by_cases h7 : g_so g = 7
    · exact st_c7 h hg hn x h7
    · have ht : isTk g = true := isTk_iff.mpr ⟨hn, h7⟩
      rcases x with x | ⟨k, x⟩ | x | x
      · exact st_c1 h hg ht x
      · exact st_c2 h hg ht x
      · exfalso
        have : g ∈ tkL s := List.mem_filter.mpr ⟨List.mem_of_getElem? hg, ht⟩
        rw [x.2.2.2.2.2] at this
        cases this
      · exact st_c4 h hg ht x
theorem tk_ch {t : Nat} {s : ST} {i : Nat} {g : MSG} (h : I_0 t s) (hg : (c_ms s)[i]? = some g) (hn : g_as g = none) : TK s i g ∧ TR s i g := by
  obtain ⟨G, T, b, p, q, c⟩ := st_ch h hg hn
  have h' : I_0 t (comesCh (tkn s i g) g) := ⟨b, p, q, Or.inr c⟩
  obtain ⟨c1, c2, c3, -⟩ := ic_na c
  have l1 := i0_len h
  have l2 := ch_le h
  have l3 := i0_len h'
  have l4 := ch_le h'
  have e : (c_ms (tkn s i g)).length ≤ (c_ms s).length := by
    rw [(tkn_f s i g).2.2.2.2.2.1]
    exact List.Sublist.length_le (List.eraseIdx_sublist _ _)
  exact ⟨⟨h.1.2.2.2, (h.2.2.1.2.1 g (List.mem_of_getElem? hg)).1, fun k z => (by rw [hn] at z; cases z), fun _ => ⟨G, by omega, c1, c3, by omega⟩⟩, i0_asN h, T.1, T.2.1, T.2.2, fun p hp => (h.2.1.1 p hp).1, fun k z => (by rw [hn] at z; cases z), fun _ => ⟨b.2.2.2, i0_asN h'⟩⟩
