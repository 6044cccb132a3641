/-! rows: the nearest of a world in a direction; lists -/
def kyd (K : Nat → Int) (d z : Nat) : Int := if d = 0 then - K z else K z
theorem kyd_op (K : Nat → Int) {d : Nat} (hd : d < 2) (z : Nat) : kyd K (1 - d) z = - kyd K d z := by
  unfold kyd
  by_cases h : d = 0
  · subst h; simp
  · have : d = 1 := by omega
    subst this; simp
theorem kyd_inj {K : Nat → Int} {d a b : Nat} (h : kyd K d a = kyd K d b) : K a = K b := by
  unfold kyd at h
  by_cases e : d = 0
  · rw [if_pos e, if_pos e] at h; omega
  · rw [if_neg e, if_neg e] at h; exact h
theorem kyd_cg {K K' : Nat → Int} {d q : Nat} (h : K' q = K q) : kyd K' d q = kyd K d q := by
  unfold kyd; rw [h]
/-- o is the nearest to z, of those of W that are as it is, in the direction d -/
def NX (W : Nat → Prop) (R : Nat → Nat → Prop) (K : Nat → Int) (z d : Nat) (o : Option Nat) : Prop := match o with
  | none => ∀ q, W q → R z q → ¬ kyd K d z < kyd K d q
  | some p => W p ∧ R z p ∧ kyd K d z < kyd K d p ∧ ∀ q, W q → R z q → kyd K d z < kyd K d q → kyd K d p ≤ kyd K d q
theorem nx_uniq {W : Nat → Prop} {R : Nat → Nat → Prop} {K : Nat → Int} {z d : Nat} {o o' : Option Nat} (inj : ∀ a b, W a → W b → K a = K b → a = b) (h : NX W R K z d o) (h' : NX W R K z d o') : o = o' := by
  cases o with
  | none =>
    cases o' with
    | none => rfl
    | some p => exact absurd h'.2.2.1 (h p h'.1 h'.2.1)
  | some p =>
    cases o' with
    | none => exact absurd h.2.2.1 (h' p h.1 h.2.1)
    | some q =>
      have a := h.2.2.2 q h'.1 h'.2.1 h'.2.2.1
      have b := h'.2.2.2 p h.1 h.2.1 h.2.2.1
      rw [inj p q h.1 h'.1 (kyd_inj (d := d) (by omega))]
theorem nx_cg {W W' : Nat → Prop} {R R' : Nat → Nat → Prop} {K K' : Nat → Int} {z d : Nat} {o : Option Nat} (hW : ∀ q, W' q ↔ W q) (hR : ∀ q, W q → (R' z q ↔ R z q)) (hK : ∀ q, W q → K' q = K q) (hz : K' z = K z) (h : NX W R K z d o) : NX W' R' K' z d o := by
  cases o with
  | none =>
    intro q w r c
    have w' := (hW q).1 w
    rw [kyd_cg hz, kyd_cg (hK q w')] at c
    exact h q w' ((hR q w').1 r) c
  | some p =>
    refine ⟨(hW p).2 h.1, (hR p h.1).2 h.2.1, ?_, fun q w r c => ?_⟩
    · rw [kyd_cg hz, kyd_cg (hK p h.1)]; exact h.2.2.1
    · have w' := (hW q).1 w
      rw [kyd_cg hz, kyd_cg (hK q w')] at c
      rw [kyd_cg (hK p h.1), kyd_cg (hK q w')]
      exact h.2.2.2 q w' ((hR q w').1 r) c
theorem nx_none {W W' : Nat → Prop} {R R' : Nat → Nat → Prop} {K : Nat → Int} {z d : Nat} (hW : ∀ q, W' q → R' z q → kyd K d z < kyd K d q → W q ∧ R z q) (h : NX W R K z d none) : NX W' R' K z d none :=
  fun q w r c => h q (hW q w r c).1 (hW q w r c).2 c
theorem nx_sym {W : Nat → Prop} {R : Nat → Nat → Prop} {K : Nat → Int} {z u d : Nat} (hd : d < 2) (sy : ∀ a b, R a b → R b a) (tr : ∀ a b c, R a b → R b c → R a c) (wz : W z) (h : NX W R K z d (some u)) : NX W R K u (1 - d) (some z) := by
  obtain ⟨h1, h2, h3, h4⟩ := h
  have ez := kyd_op K hd z
  have eu := kyd_op K hd u
  refine ⟨wz, sy _ _ h2, by omega, fun q w r c => ?_⟩
  have eq := kyd_op K hd q
  by_cases x : kyd K d z < kyd K d q
  · have := h4 q w (tr _ _ _ h2 r) x
    omega
  · omega
/-- u is taken out: who doesn't stand beside it keeps its nearest -/
theorem nx_rem1 {W W' : Nat → Prop} {R : Nat → Nat → Prop} {K : Nat → Int} {z u d : Nat} {o : Option Nat} (hW : ∀ q, W' q ↔ W q ∧ q ≠ u) (h : NX W R K z d o) (ho : o ≠ some u) : NX W' R K z d o := by
  cases o with
  | none => exact fun q w r c => h q ((hW q).1 w).1 r c
  | some p =>
    obtain ⟨h1, h2, h3, h4⟩ := h
    exact ⟨(hW p).2 ⟨h1, fun e => ho (by rw [e])⟩, h2, h3, fun q w r c => h4 q ((hW q).1 w).1 r c⟩
theorem nx_rem2 {W W' : Nat → Prop} {R : Nat → Nat → Prop} {K : Nat → Int} {z u d : Nat} {c : Option Nat} (inj : ∀ a b, W a → W b → K a = K b → a = b) (sy : ∀ a b, R a b → R b a) (tr : ∀ a b c, R a b → R b c → R a c) (hW : ∀ q, W' q ↔ W q ∧ q ≠ u) (h : NX W R K z d (some u)) (hc : NX W R K u d c) : NX W' R K z d c := by
  obtain ⟨h1, h2, h3, h4⟩ := h
  have far : ∀ q, W' q → R z q → kyd K d z < kyd K d q → kyd K d u < kyd K d q ∧ R u q := fun q w r x => by
    have a := h4 q ((hW q).1 w).1 r x
    have b : ¬ kyd K d u = kyd K d q := fun e => ((hW q).1 w).2 (inj q u ((hW q).1 w).1 h1 (kyd_inj (d := d) e.symm))
    exact ⟨by omega, tr _ _ _ (sy _ _ h2) r⟩
  cases c with
  | none => exact fun q w r x => hc q ((hW q).1 w).1 (far q w r x).2 (far q w r x).1
  | some p =>
    obtain ⟨c1, c2, c3, c4⟩ := hc
    exact ⟨(hW p).2 ⟨c1, fun e => by rw [e] at c3; omega⟩, tr _ _ _ h2 c2, by omega, fun q w r x => c4 q ((hW q).1 w).1 (far q w r x).2 (far q w r x).1⟩
/-- u is put in: those that stand beside it have it, others keep theirs -/
theorem nx_add1 {W W' : Nat → Prop} {R : Nat → Nat → Prop} {K : Nat → Int} {z u d : Nat} (hd : d < 2) (sy : ∀ a b, R a b → R b a) (tr : ∀ a b c, R a b → R b c → R a c) (hW : ∀ q, W' q ↔ W q ∨ q = u) (hc : NX W R K u (1 - d) (some z)) : NX W' R K z d (some u) := by
  obtain ⟨c1, c2, c3, c4⟩ := hc
  have ez := kyd_op K hd z
  have eu := kyd_op K hd u
  refine ⟨(hW u).2 (Or.inr rfl), sy _ _ c2, by omega, fun q w r x => ?_⟩
  rcases (hW q).1 w with w | w
  · have eq := kyd_op K hd q
    by_cases y : kyd K d q < kyd K d u
    · have := c4 q w (tr _ _ _ c2 r) (by omega)
      omega
    · omega
  · rw [w]; exact Int.le_refl _
theorem nx_add2 {W W' : Nat → Prop} {R : Nat → Nat → Prop} {K : Nat → Int} {z u d : Nat} {o c : Option Nat} (hd : d < 2) (inj : ∀ a b, W a → W b → K a = K b → a = b) (sy : ∀ a b, R a b → R b a) (tr : ∀ a b c, R a b → R b c → R a c) (wz : W z) (hW : ∀ q, W' q ↔ W q ∨ q = u) (hc : NX W R K u (1 - d) c) (hn : c ≠ some z) (h : NX W R K z d o) : NX W' R K z d o := by
  have ez := kyd_op K hd z
  have eu := kyd_op K hd u
  have mid : R z u → kyd K d z < kyd K d u → ∃ y, W y ∧ R z y ∧ kyd K d z < kyd K d y ∧ kyd K d y < kyd K d u := fun r x => by
    cases c with
    | none => exact absurd (by omega : kyd K (1 - d) u < kyd K (1 - d) z) (hc z wz (sy _ _ r))
    | some y =>
      obtain ⟨c1, c2, c3, c4⟩ := hc
      have ey := kyd_op K hd y
      have a := c4 z wz (sy _ _ r) (by omega)
      have b : ¬ kyd K d z = kyd K d y := fun e => hn (by rw [inj z y wz c1 (kyd_inj (d := d) e)])
      exact ⟨y, c1, tr _ _ _ r c2, by omega, by omega⟩
  cases o with
  | none =>
    intro q w r x
    rcases (hW q).1 w with w | w
    · exact h q w r x
    · rw [w] at r x
      obtain ⟨y, y1, y2, y3, -⟩ := mid r x
      exact h y y1 y2 y3
  | some p =>
    obtain ⟨h1, h2, h3, h4⟩ := h
    refine ⟨(hW p).2 (Or.inl h1), h2, h3, fun q w r x => ?_⟩
    rcases (hW q).1 w with w | w
    · exact h4 q w r x
    · rw [w] at r x ⊢
      obtain ⟨y, y1, y2, y3, y4⟩ := mid r x
      have := h4 y y1 y2 y3
      omega
/-- u itself is not beyond itself -/
theorem nx_self {W W' : Nat → Prop} {R : Nat → Nat → Prop} {K : Nat → Int} {u d : Nat} {o : Option Nat} (hW : ∀ q, q ≠ u → (W' q ↔ W q)) (h : NX W R K u d o) : NX W' R K u d o := by
  have ne : ∀ q, kyd K d u < kyd K d q → q ≠ u := fun q x e => by rw [e] at x; omega
  cases o with
  | none => exact fun q w r x => h q ((hW q (ne q x)).1 w) r x
  | some p =>
    obtain ⟨h1, h2, h3, h4⟩ := h
    exact ⟨(hW p (ne p h3)).2 h1, h2, h3, fun q w r x => h4 q ((hW q (ne q x)).1 w) r x⟩
/-! the search: W is those beside u, R the likeness of a level, R1 that of the next -/
theorem sk_on {W W' : Nat → Prop} {R R1 : Nat → Nat → Prop} {K : Nat → Int} {u z d p : Nat} (inj : ∀ a b, W a → W b → K a = K b → a = b) (sy : ∀ a b, R a b → R b a) (tr : ∀ a b c, R a b → R b c → R a c) (hR : ∀ a b, R1 a b → R a b) (hW : ∀ q, W q → W' q) (hW' : ∀ q, W' q → q ≠ u → W q) (wz : W z) (rz : R u z) (bz : kyd K d u < kyd K d z) (cz : ∀ q, W q → R1 u q → kyd K d u < kyd K d q → kyd K d z ≤ kyd K d q) (nz : ¬ R1 u z) (h : NX W' R K z d (some p)) :
    W p ∧ R u p ∧ kyd K d u < kyd K d p ∧ ∀ q, W q → R1 u q → kyd K d u < kyd K d q → kyd K d p ≤ kyd K d q := by
  obtain ⟨h1, h2, h3, h4⟩ := h
  refine ⟨hW' p h1 (fun e => by rw [e] at h3; omega), tr _ _ _ rz h2, by omega, fun q w r x => ?_⟩
  have a := cz q w r x
  have b : ¬ kyd K d z = kyd K d q := fun e => nz (by rw [inj z q wz w (kyd_inj (d := d) e)]; exact r)
  exact h4 q (hW q w) (tr _ _ _ (sy _ _ rz) (hR _ _ r)) (by omega)
theorem sk_end {W W' : Nat → Prop} {R R1 : Nat → Nat → Prop} {K : Nat → Int} {u z d : Nat} (inj : ∀ a b, W a → W b → K a = K b → a = b) (sy : ∀ a b, R a b → R b a) (tr : ∀ a b c, R a b → R b c → R a c) (hR : ∀ a b, R1 a b → R a b) (hW : ∀ q, W q → W' q) (wz : W z) (rz : R u z) (cz : ∀ q, W q → R1 u q → kyd K d u < kyd K d q → kyd K d z ≤ kyd K d q) (nz : ¬ R1 u z) (h : NX W' R K z d none) : NX W R1 K u d none := by
  intro q w r x
  have a := cz q w r x
  have b : ¬ kyd K d z = kyd K d q := fun e => nz (by rw [inj z q wz w (kyd_inj (d := d) e)]; exact r)
  exact h q (hW q w) (tr _ _ _ (sy _ _ rz) (hR _ _ r)) (by omega)
theorem sk_tell {W W' : Nat → Prop} {R1 : Nat → Nat → Prop} {K : Nat → Int} {u z d : Nat} {o : Option Nat} (hd : d < 2) (inj : ∀ q, W q → K u = K q → u = q) (nu : ¬ W u) (sy : ∀ a b, R1 a b → R1 b a) (tr : ∀ a b c, R1 a b → R1 b c → R1 a c) (hW : ∀ q, W' q ↔ W q) (rz : R1 u z) (bz : kyd K d u < kyd K d z) (cz : ∀ q, W q → R1 u q → kyd K d u < kyd K d q → kyd K d z ≤ kyd K d q) (h : NX W' R1 K z (1 - d) o) : NX W R1 K u (1 - d) o := by
  have ez := kyd_op K hd z
  have eu := kyd_op K hd u
  cases o with
  | none =>
    intro q w r x
    have eq := kyd_op K hd q
    exact h q ((hW q).2 w) (tr _ _ _ (sy _ _ rz) r) (by omega)
  | some p =>
    obtain ⟨h1, h2, h3, h4⟩ := h
    have ep := kyd_op K hd p
    have wp := (hW p).1 h1
    have a : ¬ kyd K d u < kyd K d p := fun x => by
      have := cz p wp (tr _ _ _ rz h2) x
      omega
    have b : ¬ kyd K d u = kyd K d p := fun e => nu (by rw [inj p wp (kyd_inj (d := d) e)]; exact wp)
    refine ⟨wp, tr _ _ _ rz h2, by omega, fun q w r x => ?_⟩
    have eq := kyd_op K hd q
    exact h4 q ((hW q).2 w) (tr _ _ _ (sy _ _ rz) r) (by omega)
/-! lists -/
theorem ls_len {α : Type} [BEq α] [LawfulBEq α] : ∀ (l m : List α), l.Nodup → (∀ x, x ∈ l → x ∈ m) → l.length ≤ m.length
  | [], m, _, _ => Nat.zero_le _
  | a :: l, m, h, hs => by
    obtain ⟨h1, h2⟩ := List.nodup_cons.mp h
    have ha : a ∈ m := hs a List.mem_cons_self
    have := ls_len l (m.erase a) h2 (fun x hx => (List.mem_erase_of_ne (fun e => h1 (by rw [← e]; exact hx))).mpr (hs x (List.mem_cons_of_mem _ hx)))
    rw [List.length_erase_of_mem ha] at this
    have : 0 < m.length := List.length_pos_of_mem ha
    rw [List.length_cons]
    omega
theorem ls_er {α : Type} : ∀ (L : List α) (i : Nat) (g x : α), L[i]? = some g → x ∈ L → x ∈ L.eraseIdx i ∨ x = g
  | [], i, g, x, h, hx => by cases hx
  | a :: L, 0, g, x, h, hx => by
    rw [List.getElem?_cons_zero] at h
    rcases List.mem_cons.mp hx with e | e
    · right; rw [e]; exact Option.some.inj h
    · left; exact e
  | a :: L, i + 1, g, x, h, hx => by
    rw [List.getElem?_cons_succ] at h
    rw [List.eraseIdx_cons_succ]
    rcases List.mem_cons.mp hx with e | e
    · left; rw [e]; exact List.mem_cons_self
    · rcases ls_er L i g x h e with z | z
      · left; exact List.mem_cons_of_mem _ z
      · right; exact z
theorem ls_f0 {α : Type} {p : α → Bool} : ∀ (L : List α) (i : Nat) (g : α), L[i]? = some g → p g = false → (L.eraseIdx i).filter p = L.filter p
  | [], i, g, h, hp => by cases h
  | a :: L, 0, g, h, hp => by
    rw [List.getElem?_cons_zero] at h
    rw [Option.some.inj h, List.eraseIdx_cons_zero, List.filter_cons_of_neg (by rw [hp]; decide)]
  | a :: L, i + 1, g, h, hp => by
    rw [List.getElem?_cons_succ] at h
    rw [List.eraseIdx_cons_succ, List.filter_cons, List.filter_cons, ls_f0 L i g h hp]
theorem ls_f1 {α : Type} {p : α → Bool} : ∀ (L : List α) (i : Nat) (g : α), L[i]? = some g → p g = true → ((L.eraseIdx i).filter p).length + 1 = (L.filter p).length
  | [], i, g, h, hp => by cases h
  | a :: L, 0, g, h, hp => by
    rw [List.getElem?_cons_zero] at h
    rw [Option.some.inj h, List.eraseIdx_cons_zero, List.filter_cons_of_pos hp, List.length_cons]
  | a :: L, i + 1, g, h, hp => by
    rw [List.getElem?_cons_succ] at h
    have := ls_f1 L i g h hp
    rw [List.eraseIdx_cons_succ, List.filter_cons, List.filter_cons]
    by_cases e : p a = true
    · rw [if_pos e, if_pos e, List.length_cons, List.length_cons]; omega
    · rw [if_neg e, if_neg e]; exact this
theorem ls_f2 {α : Type} {p : α → Bool} {L : List α} {i : Nat} {g g' : α} (h : L[i]? = some g) (hp : p g = true) (hT : L.filter p = [g']) : g = g' ∧ (L.eraseIdx i).filter p = [] := by
  have m : g ∈ L.filter p := List.mem_filter.mpr ⟨List.mem_of_getElem? h, hp⟩
  rw [hT] at m
  have l := ls_f1 L i g h hp
  rw [hT] at l
  have l' : ((L.eraseIdx i).filter p).length = 0 := by
    have : [g'].length = 1 := rfl
    omega
  exact ⟨List.mem_singleton.mp m, List.length_eq_zero_iff.mp l'⟩
