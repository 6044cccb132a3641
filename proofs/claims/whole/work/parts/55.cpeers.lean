/-! the class: asks begun, peers made -/
theorem go_find {s : ST} {m : MM} {p x : Int32} (h : RC s m) (hl : (c_ms s).length < 192) : ∃ m', go 52 0 [some (vr 7 (some 0)), some (vi p), some (vi x)] [] m = some (some (vi (o_ask2 s 0 p x x 0).1), m') ∧ RC (o_ask2 s 0 p x x 0).2 m' ∧ fg QZ m m' := by
  obtain ⟨m', a1, a2⟩ := go_startAsk (so := 0) (p := p) (a := x) (b := x) (v := 0) h (by decide) (fun z => by cases z) hl
  refine ⟨m', ?_, a2⟩
  rw [show nI 0 = 0 from rfl] at a1
  simp only [s52_0, s52_1, s52_2, s52_3, s52_4, s52_5, s52_6, s52_9, eq_self, ixk_some, bd_some, nl_n, nl_i, nl_r, Option.toList_some, Option.toList_none, List.cons_append, List.nil_append, a1]
theorem go_span {s : ST} {m : MM} {p a b : Int32} (h : RC s m) (hl : (c_ms s).length < 192) : ∃ m', go 53 0 [some (vr 7 (some 0)), some (vi p), some (vi a), some (vi b)] [] m = some (some (vi (o_ask2 s 1 p a b 0).1), m') ∧ RC (o_ask2 s 1 p a b 0).2 m' ∧ fg QZ m m' := by
  obtain ⟨m', a1, a2⟩ := go_startAsk (so := 1) (p := p) (a := a) (b := b) (v := 0) h (by decide) (fun z => by cases z) hl
  refine ⟨m', ?_, a2⟩
  rw [show nI 1 = 1 from rfl] at a1
  simp only [s53_0, s53_1, s53_2, s53_3, s53_4, s53_5, s53_6, s53_9, eq_self, ixk_some, bd_some, nl_n, nl_i, nl_r, Option.toList_some, Option.toList_none, List.cons_append, List.nil_append, a1]
theorem go_tally {s : ST} {m : MM} {p a b : Int32} (h : RC s m) (hl : (c_ms s).length < 192) : ∃ m', go 54 0 [some (vr 7 (some 0)), some (vi p), some (vi a), some (vi b)] [] m = some (some (vi (o_ask2 s 2 p a b 0).1), m') ∧ RC (o_ask2 s 2 p a b 0).2 m' ∧ fg QZ m m' := by
  obtain ⟨m', a1, a2⟩ := go_startAsk (so := 2) (p := p) (a := a) (b := b) (v := 0) h (by decide) (fun z => by cases z) hl
  refine ⟨m', ?_, a2⟩
  rw [show nI 2 = 2 from rfl] at a1
  simp only [s54_0, s54_1, s54_2, s54_3, s54_4, s54_5, s54_6, s54_9, eq_self, ixk_some, bd_some, nl_n, nl_i, nl_r, Option.toList_some, Option.toList_none, List.cons_append, List.nil_append, a1]
theorem go_put {s : ST} {m : MM} {p x : Int32} {v : Int64} (h : RC s m) (hl : (c_ms s).length < 192) : ∃ m', go 55 0 [some (vr 7 (some 0)), some (vi p), some (vi x), some (vl v), none] [] m = some (some (vi (o_ask2 s 3 p x x v).1), m') ∧ RC (o_ask2 s 3 p x x v).2 m' ∧ fg QZ m m' := by
  obtain ⟨m', a1, a2⟩ := go_startAsk (so := 3) (p := p) (a := x) (b := x) (v := v) h (by decide) (fun z => by cases z) hl
  refine ⟨m', ?_, a2⟩
  rw [show nI 3 = 3 from rfl] at a1
  simp only [s55_0, s55_1, s55_2, s55_3, s55_4, s55_5, s55_6, s55_9, eq_self, ixk_some, bd_some, nl_n, nl_i, nl_r, Option.toList_some, Option.toList_none, List.cons_append, List.nil_append, a1]
theorem go_get {s : ST} {m : MM} {p x : Int32} (h : RC s m) (hl : (c_ms s).length < 192) : ∃ m', go 56 0 [some (vr 7 (some 0)), some (vi p), some (vi x)] [] m = some (some (vi (o_ask2 s 4 p x x 0).1), m') ∧ RC (o_ask2 s 4 p x x 0).2 m' ∧ fg QZ m m' := by
  obtain ⟨m', a1, a2⟩ := go_startAsk (so := 4) (p := p) (a := x) (b := x) (v := 0) h (by decide) (fun _ => rfl) hl
  refine ⟨m', ?_, a2⟩
  rw [show nI 4 = 4 from rfl] at a1
  simp only [s56_0, s56_1, s56_2, s56_3, s56_4, s56_5, s56_6, s56_9, eq_self, ixk_some, bd_some, nl_n, nl_i, nl_r, Option.toList_some, Option.toList_none, List.cons_append, List.nil_append, a1]
def iniP (m : MM) (q : Nat) : MM := sR (al (sR (al m 12 16 16) 5 q 0 (some (mC m 12))) 13 16 16) 5 q 1 (some (mC m 13))
theorem go_initPairs {m : MM} {q : Nat} : go 15 0 [some (vr 5 (some q))] [] m = some (none, iniP m q) := by
  simp only [s15_0, s15_1, s15_4, s15_5, s15_7k16, s15_9r, s15_9n, s15_12, s15_13, s15_15k16, s15_17r, s15_17n, s15_20, eq_self, ixk_some, bd_some, nl_n, nl_i, nl_r, Option.toList_some, Option.toList_none, List.cons_append, List.nil_append]
  rfl
def ini1 (m : MM) (p : Nat) : MM := sR (al (sR (al (sI m 6 p 3 0) 14 9 9) 6 p 5 (some (mC m 14))) 15 18 18) 6 p 6 (some (mC m 15))
def ini2 (m : MM) (p : Nat) : MM := iniP (al (ini1 m p) 5 0 3) (mC m 5)
def iniE (m : MM) (p : Nat) (x name b : Int32) : MM := sI (sI (sI (sR (ini2 m p) 6 p 9 (some (mC m 5))) 6 p 0 x) 6 p 1 name) 6 p 2 b
theorem go_initPeer {m : MM} {p : Nat} {x name b : Int32} : go 22 0 [some (vr 6 (some p)), some (vi x), some (vi name), some (vi b)] [] m = some (none, iniE m p x name b) := by
  have a1 := go_initPairs (m := al (ini1 m p) 5 0 3) (q := mC m 5)
  simp only [s22_0, s22_1, s22_4, s22_5, s22_6, s22_9, s22_10, s22_12k0, s22_12k9, s22_12k18, s22_14r, s22_14n, s22_17, s22_18, s22_20k0, s22_20k9, s22_20k18, s22_23r, s22_23n, s22_26, s22_27, eq_self, ixk_some, bd_some, nl_n, nl_i, nl_r, Option.toList_some, Option.toList_none, List.cons_append, List.nil_append]
  have e : al (sR (al (sR (al (sI m 6 p 3 0) 14 9 9) 6 p 5 (some (mC (sI m 6 p 3 0) 14))) 15 18 18) 6 p 6 (some (mC (sR (al (sI m 6 p 3 0) 14 9 9) 6 p 5 (some (mC (sI m 6 p 3 0) 14))) 15))) 5 0 3 = al (ini1 m p) 5 0 3 := rfl
  have e2 : mC (sR (al (sR (al (sI m 6 p 3 0) 14 9 9) 6 p 5 (some (mC (sI m 6 p 3 0) 14))) 15 18 18) 6 p 6 (some (mC (sR (al (sI m 6 p 3 0) 14 9 9) 6 p 5 (some (mC (sI m 6 p 3 0) 14))) 15))) 5 = mC m 5 := rfl
  rw [e, e2]
  simp only [s22_0, s22_1, s22_4, s22_5, s22_6, s22_9, s22_10, s22_12k0, s22_12k9, s22_12k18, s22_14r, s22_14n, s22_17, s22_18, s22_20k0, s22_20k9, s22_20k18, s22_23r, s22_23n, s22_26, s22_27, s22_30, s22_31, s22_34r, s22_34n, s22_37, s22_38, s22_39, s22_42, s22_43, s22_44, s22_47, s22_48, s22_49, s22_52, eq_self, ixk_some, bd_some, nl_n, nl_i, nl_r, Option.toList_some, Option.toList_none, List.cons_append, List.nil_append, a1]
  rfl
def newP (m : MM) (p : Nat) (name b : Int32) : MM := sR (iniE (al m 6 0 10) p (nI p) name b) 16 0 p (some p)
theorem newP_fg {m : MM} {p : Nat} {name b : Int32} (h5 : mC m 5 = p + 1) (h6 : mC m 6 = p) (h12 : mC m 12 = p + 1) (h13 : mC m 13 = p + 1) (h14 : mC m 14 = p) (h15 : mC m 15 = p) :
    fg (fun r n => ((r = 6 ∨ r = 14 ∨ r = 15) ∧ n = p) ∨ ((r = 5 ∨ r = 12 ∨ r = 13) ∧ n = p + 1) ∨ r = 16) m (newP m p name b) := by
  have q1 : (fun r n => ((r = 6 ∨ r = 14 ∨ r = 15) ∧ n = p) ∨ ((r = 5 ∨ r = 12 ∨ r = 13) ∧ n = p + 1) ∨ r = 16) 6 p := Or.inl ⟨Or.inl rfl, rfl⟩
  have q5 : (fun r n => ((r = 6 ∨ r = 14 ∨ r = 15) ∧ n = p) ∨ ((r = 5 ∨ r = 12 ∨ r = 13) ∧ n = p + 1) ∨ r = 16) 5 (mC m 5) := Or.inr (Or.inl ⟨Or.inl rfl, h5⟩)
  unfold newP iniE ini2 iniP ini1
  refine fgR (fgI (fgI (fgI (fgR (fgR (fgA (fgR (fgA (fgA (fgR (fgA (fgR (fgA (fgI (fgA (fg_rf _ m) ?_ ?_ ?_) q1) ?_ ?_ ?_) q1) ?_ ?_ ?_) q1) ?_ ?_ ?_) ?_ ?_ ?_) q5) ?_ ?_ ?_) q5) q1) q1) q1) q1) (Or.inr (Or.inr rfl))
  · decide
  · decide
  · exact Or.inl ⟨Or.inl rfl, h6⟩
  · decide
  · decide
  · exact Or.inl ⟨Or.inr (Or.inl rfl), h14⟩
  · decide
  · decide
  · exact Or.inl ⟨Or.inr (Or.inr rfl), h15⟩
  · decide
  · decide
  · exact Or.inr (Or.inl ⟨Or.inl rfl, h5⟩)
  · decide
  · decide
  · exact Or.inr (Or.inl ⟨Or.inr (Or.inl rfl), h12⟩)
  · decide
  · decide
  · exact Or.inr (Or.inl ⟨Or.inr (Or.inr rfl), h13⟩)
