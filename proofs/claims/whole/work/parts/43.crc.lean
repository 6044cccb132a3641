/-! the class as one: all its tables; sends -/
def RCn (s : ST) (m : MM) : Prop := mC m 5 = c_n s + 1 ∧ mC m 6 = c_n s ∧ mC m 12 = c_n s + 1 ∧ mC m 13 = c_n s + 1 ∧ mC m 14 = c_n s ∧ mC m 15 = c_n s ∧ mC m 1 = c_na s ∧ mC m 9 = c_na s ∧ mC m 10 = c_na s
def RC (s : ST) (m : MM) : Prop := RCp s m ∧ RCc s m ∧ RCk s m ∧ RCa s m ∧ RCm s m ∧ RCq s m ∧ RCs s m ∧ RCn s m
def QK (m : MM) : Nat → Nat → Prop := fun r n => 1 ≤ r ∧ r ≤ 18 ∧ r ≠ 8 ∧ ¬ (r = 4 ∧ mR m 3 0 3 = some n)
/-- what a call's part may write: the class's cells, but the message taken last -/
def fK (m m' : MM) : Prop := fg (QK m) m m' ∧ mR m' 3 0 3 = mR m 3 0 3
theorem fK_rf (m : MM) : fK m m := ⟨fg_rf _ _, rfl⟩
theorem fK_tr {a b c : MM} (h : fK a b) (g : fK b c) : fK a c := by
  refine ⟨fg_tr h.1 (fg_le g.1 ?_), g.2.trans h.2⟩
  unfold QK
  rw [h.2]
  exact fun r n z => z
theorem RC3_fK {g : MSG} {m m' : MM} {n : Nat} (h : RC3 g m n) (hf : fK m m') (hn : mR m 3 0 3 = some n) : RC3 g m' n := RC3_fg h hf.1 (fun z => z.2.2.2 ⟨rfl, hn⟩)
theorem fK_fr {m m' : MM} {Q : Nat → Nat → Prop} (h : fr Q m m') (hq : ∀ r n, Q r n → 1 ≤ r ∧ r ≤ 18 ∧ r ≠ 8 ∧ r ≠ 4 ∧ r ≠ 3) : fK m m' := by
  refine ⟨fg_le (fg_fr h) (fun r n z => ?_), (h.1 3 0 3 (fun z => (hq 3 0 z).2.2.2.2 rfl)).2.2⟩
  have := hq r n z
  exact ⟨this.1, this.2.1, this.2.2.1, fun e => this.2.2.2.1 e.1⟩
def SEr (s s' : ST) : Prop := c_n s' = c_n s ∧ c_pr s' = c_pr s ∧ c_dr s' = c_dr s ∧ c_ev s' = c_ev s ∧ c_na s' = c_na s ∧ c_ak s' = c_ak s ∧ c_ms s' = c_ms s ∧ c_ck s' = c_ck s ∧ c_cp s' = c_cp s ∧ c_cu s' = c_cu s ∧ c_cb s' = c_cb s ∧ c_bg s' = c_bg s
theorem RCn_fr {s : ST} {m m' : MM} {Q : Nat → Nat → Prop} (h : RCn s m) (hf : fr Q m m') : RCn s m' := by
  unfold RCn
  simp only [hf.2.1]
  exact h
/-- peers' cells alone were written -/
theorem RC_P {s s' : ST} {m m' : MM} {Q : Nat → Nat → Prop} (h : RC s m) (hp : RCp s' m') (hf : fr Q m m') (hq : ∀ r n, Q r n → r = 6 ∨ r = 14 ∨ r = 15) (e : SEr s s') : RC s' m' := by
  obtain ⟨h1, h2, h3, h4, h5, h6, h7, h8⟩ := h
  obtain ⟨e1, e2, e3, e4, e5, e6, e7, e8, e9, e10, e11, e12⟩ := e
  refine ⟨hp, ?_, ?_, ?_, ?_, ?_, ?_, ?_⟩
  · have := RCc_fr h2 hf (fun r n z => by have := hq r n z; omega)
    unfold RCc at this ⊢
    rw [e8, e9, e10, e11]; exact this
  · have := RCk_fr h3 hf (fun r n z => by have := hq r n z; omega)
    unfold RCk at this ⊢
    rw [e3, e4]; exact this
  · have := RCa_fr h4 hf (fun r n z => by have := hq r n z; omega)
    unfold RCa at this ⊢
    rw [e5, e6]; exact this
  · have := RCm_fr h5 hf (fun r n z => by have := hq r n z; omega)
    unfold RCm chM at this ⊢
    rw [e7]; exact this
  · have := RCq_fr h6 hf (fun r n z => by have := hq r n z; omega)
    unfold RCq at this ⊢
    rw [e1, e2, e12]; exact this
  · have := RCs_fg h7 (fg_fr hf) (fun r n z => by have := hq r n z; omega)
    unfold RCs at this ⊢
    rw [e7]; exact this
  · have := RCn_fr h8 hf
    unfold RCn at this ⊢
    rw [e1, e5]; exact this
theorem QE_P {i : Nat} : ∀ r n, QE i r n → r = 6 ∨ r = 14 ∨ r = 15 := fun _ _ z => z.1
theorem QE_K {i : Nat} : ∀ r n, QE i r n → 1 ≤ r ∧ r ≤ 18 ∧ r ≠ 8 ∧ r ≠ 4 ∧ r ≠ 3 := fun r n z => by
  have := z.1
  omega
theorem QA_K {m : MM} : ∀ r n, QA m r n → QK m r n := by
  intro r n z
  rcases z with ⟨z1, z2⟩ | ⟨z1, z2⟩
  · exact ⟨by omega, by omega, by omega, fun e => by omega⟩
  · exact ⟨by omega, by omega, by omega, fun e => z2 e.2⟩
theorem RC_snd {s : ST} {g : MSG} {m m' : MM} (h : RC s m) (hm : RCm (snd1 s g) m') (hs : RCs (snd1 s g) m') (hf : fg (QA m) m m') : RC (snd1 s g) m' := by
  obtain ⟨h1, h2, h3, h4, h5, h6, h7, h8⟩ := h
  have q : ∀ r n, QA m r n → r = 3 ∨ r = 11 ∨ r = 4 := fun r n z => by
    rcases z with z | z
    · omega
    · omega
  refine ⟨RCp_fg h1 hf (fun r n z => by have := q r n z; omega), RCc_fg h2 hf (fun r n z => by have := q r n z; omega), RCk_fg h3 hf (fun r n z => by have := q r n z; omega), RCa_fg h4 hf (fun r n z => by have := q r n z; omega), hm, RCq_fg h6 hf (fun r n z => by have := q r n z; omega), hs, ?_⟩
  have hc : ∀ r, r ≠ 3 → r ≠ 11 → r ≠ 4 → mC m' r = mC m r := fun r a b c => hf.2.2.1 r (fun n z => by have := q r n z; omega)
  obtain ⟨a1, a2, a3, a4, a5, a6, a7, a8, a9⟩ := h8
  exact ⟨by rw [hc 5 (by decide) (by decide) (by decide)]; exact a1, by rw [hc 6 (by decide) (by decide) (by decide)]; exact a2, by rw [hc 12 (by decide) (by decide) (by decide)]; exact a3, by rw [hc 13 (by decide) (by decide) (by decide)]; exact a4, by rw [hc 14 (by decide) (by decide) (by decide)]; exact a5, by rw [hc 15 (by decide) (by decide) (by decide)]; exact a6, by rw [hc 1 (by decide) (by decide) (by decide)]; exact a7, by rw [hc 9 (by decide) (by decide) (by decide)]; exact a8, by rw [hc 10 (by decide) (by decide) (by decide)]; exact a9⟩
theorem go_addo {s : ST} {m : MM} {so sd ta t tl tr : Nat} {to lv lf rg : Option Nat} (h : RC s m) (hl : (c_ms s).length < 192) (ht : to = none ∨ t = 6) (htl : lf = none ∨ tl = 6) (htr : rg = none ∨ tr = 6) :
    ∃ m', go 12 0 [some (vr 3 (some 0)), some (vr ta none), some (vi (nI so)), some (vr t to), some (vi (enc lv)), some (vi (nI sd)), some (vr tl lf), some (vr tr rg), none] [] m = some (none, m') ∧ RC (sndo s so to lv sd lf rg) m' ∧ fK m m' := by
  cases to with
  | none => exact ⟨m, go_add0, h, fK_rf m⟩
  | some p => 
    have ht : t = 6 := by
      rcases ht with z | z
      · cases z
      · exact z
    subst ht
    obtain ⟨m', a1, a2, a3, a4, a5⟩ := go_add (ta := ta) (tl := tl) (tr := tr) (g := (so, p, none, lv, sd, lf, rg)) h.2.2.2.2.1 h.2.2.2.2.2.2.1 hl (Or.inl rfl) htl htr
    exact ⟨m', a1, RC_snd h a2 a3 a4, fg_le a4 QA_K, a5⟩
theorem go_addAsk {s : ST} {m : MM} {k p : Nat} (h : RC s m) (hk : k < c_na s) (hl : (c_ms s).length < 192) :
    ∃ m', go 10 0 [some (vr 3 (some 0)), some (vr 1 (some k)), some (vr 6 (some p))] [] m = some (none, m') ∧ RC (snda s k p) m' ∧ fK m m' := by
  obtain ⟨m', a1, a2, a3, a4, a5⟩ := go_add (ta := 1) (tl := 0) (tr := 0) (g := (a_so (c_ak s k), p, some k, none, 0, none, none)) h.2.2.2.2.1 h.2.2.2.2.2.2.1 hl (Or.inr rfl) (Or.inl rfl) (Or.inl rfl)
  refine ⟨m', ?_, RC_snd h a2 a3 a4, fg_le a4 QA_K, a5⟩
  have g1 := (h.2.2.2.1.2.2.2.2.2.1 k hk).2.1
  have a1 : go 12 0 [some (vr 3 (some 0)), some (vr 1 (some k)), some (vi (nI (a_so (c_ak s k)))), some (vr 6 (some p)), some (vi (-4)), some (vi 0), some (vr 0 none), some (vr 0 none), none] [] m = some (none, m') := a1
  simp only [s10_0, s10_1, s10_2, s10_3, s10_6, s10_7, s10_9, s10_10, s10_11, s10_12, s10_15, eq_self, ixk_some, bd_some, nl_n, nl_i, nl_r, Option.toList_some, Option.toList_none, List.cons_append, List.nil_append, g1, a1]
theorem go_addPlain {s : ST} {m : MM} {so t : Nat} {to : Option Nat} (h : RC s m) (hl : (c_ms s).length < 192) (ht : to = none ∨ t = 6) :
    ∃ m', go 11 0 [some (vr 3 (some 0)), some (vi (nI so)), some (vr t to)] [] m = some (none, m') ∧ RC (sndo s so to none 0 none none) m' ∧ fK m m' := by
  obtain ⟨m', a1, a2⟩ := go_addo (so := so) (sd := 0) (ta := 0) (tl := 0) (tr := 0) (lv := none) (lf := none) (rg := none) h hl ht (Or.inl rfl) (Or.inl rfl)
  refine ⟨m', ?_, a2⟩
  have a1 : go 12 0 [some (vr 3 (some 0)), some (vr 0 none), some (vi (nI so)), some (vr t to), some (vi (-4)), some (vi 0), some (vr 0 none), some (vr 0 none), none] [] m = some (none, m') := a1
  simp only [s11_0, s11_1, s11_2, s11_3, s11_4, s11_6, s11_7, s11_8, s11_9, s11_12, eq_self, ixk_some, bd_some, nl_n, nl_i, nl_r, Option.toList_some, Option.toList_none, List.cons_append, List.nil_append, a1]
theorem go_sendLink0 {s : ST} {m : MM} {l t t' : Nat} {to o : Option Nat} (h : RC s m) (hl : (c_ms s).length < 192) (ht : to = none ∨ t = 6) (ht' : o = none ∨ t' = 6) :
    ∃ m', go 50 0 [some (vr 7 (some 0)), some (vr t to), some (vi (nI l)), some (vi 0), some (vr t' o)] [] m = some (none, m') ∧ RC (sndo s 7 to (some l) 0 o none) m' ∧ fK m m' := by
  obtain ⟨m', a1, a2⟩ := go_addo (so := 7) (sd := 0) (ta := 0) (tr := 0) (lv := some l) (rg := none) h hl ht ht' (Or.inl rfl)
  refine ⟨m', ?_, a2⟩
  have a1 : go 12 0 [some (vr 3 (some 0)), some (vr 0 none), some (vi 7), some (vr t to), some (vi (nI l)), some (vi 0), some (vr t' o), some (vr 0 none), none] [] m = some (none, m') := a1
  have k1 := h.2.2.2.2.1.1
  have z1 : ¬ (1 : Int32) = 0 := by decide
  have z0 : ¬ (0 : Int32) = 1 := by decide
  simp only [s50_0, s50_1, s50_4, s50_5, s50_7, s50_8, s50_9, s50_10, s50_11, s50_14, s50_16, s50_19, s50_20, s50_21, s50_22, s50_25, s50_27, s50_30, s50_31, s50_34, eq_self, ixk_some, bd_some, nl_n, nl_i, nl_r, Option.toList_some, Option.toList_none, List.cons_append, List.nil_append, k1, a1]
  simp
theorem go_sendLink1 {s : ST} {m : MM} {l t t' : Nat} {to o : Option Nat} (h : RC s m) (hl : (c_ms s).length < 192) (ht : to = none ∨ t = 6) (ht' : o = none ∨ t' = 6) :
    ∃ m', go 50 0 [some (vr 7 (some 0)), some (vr t to), some (vi (nI l)), some (vi 1), some (vr t' o)] [] m = some (none, m') ∧ RC (sndo s 7 to (some l) 1 none o) m' ∧ fK m m' := by
  obtain ⟨m', a1, a2⟩ := go_addo (so := 7) (sd := 1) (ta := 0) (tl := 0) (lv := some l) (lf := none) h hl ht (Or.inl rfl) ht'
  refine ⟨m', ?_, a2⟩
  have a1 : go 12 0 [some (vr 3 (some 0)), some (vr 0 none), some (vi 7), some (vr t to), some (vi (nI l)), some (vi 1), some (vr 0 none), some (vr t' o), none] [] m = some (none, m') := a1
  have k1 := h.2.2.2.2.1.1
  simp only [s50_0, s50_1, s50_4, s50_5, s50_7, s50_8, s50_9, s50_10, s50_11, s50_14, s50_16, s50_19, s50_20, s50_21, s50_22, s50_25, s50_27, s50_30, s50_31, s50_34, eq_self, ixk_some, bd_some, nl_n, nl_i, nl_r, Option.toList_some, Option.toList_none, List.cons_append, List.nil_append, k1, a1]
  simp
theorem go_sendTell {s : ST} {m : MM} {l t t' u : Nat} {o o' : Option Nat} (h : RC s m) (hl : (c_ms s).length < 192) (ht : o = none ∨ t = 6) (ht' : o' = none ∨ t' = 6) :
    ∃ m', go 80 0 [some (vr 7 (some 0)), some (vr 6 (some u)), some (vi (nI l)), some (vr t o), some (vr t' o')] [] m = some (none, m') ∧ RC (snd1 s (9, u, none, some l, 0, o, o')) m' ∧ fK m m' := by
  obtain ⟨m', a1, a2⟩ := go_addo (so := 9) (sd := 0) (ta := 0) (t := 6) (to := some u) (lv := some l) h hl (Or.inr rfl) ht ht'
  refine ⟨m', ?_, a2⟩
  have a1 : go 12 0 [some (vr 3 (some 0)), some (vr 0 none), some (vi 9), some (vr 6 (some u)), some (vi (nI l)), some (vi 0), some (vr t o), some (vr t' o'), none] [] m = some (none, m') := a1
  have k1 := h.2.2.2.2.1.1
  simp only [s80_0, s80_1, s80_4, s80_5, s80_7, s80_8, s80_9, s80_10, s80_11, s80_13, s80_16, eq_self, ixk_some, bd_some, nl_n, nl_i, nl_r, Option.toList_some, Option.toList_none, List.cons_append, List.nil_append, k1, a1]
