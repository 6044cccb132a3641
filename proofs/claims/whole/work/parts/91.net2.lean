/-! the rows: u is taken out, a LINK comes, new bits, the end -/
def unL (kl : Nat → Nat → Nat → Option Nat) (u : Nat) : Nat → Nat → List MSG
  | 0, _ => []
  | d + 1, l => lkL l (kl u l 0) (kl u l 1) (kl u l 1) (kl u l 0) ++ unL kl u d (l + 1)
theorem mem_unL {kl : Nat → Nat → Nat → Option Nat} {u : Nat} {g : MSG} : ∀ d l, g ∈ unL kl u d l ↔ ∃ l', l ≤ l' ∧ l' < l + d ∧ g ∈ lkL l' (kl u l' 0) (kl u l' 1) (kl u l' 1) (kl u l' 0)
  | 0, l => by
    constructor
    · intro h; cases h
    · rintro ⟨l', a, b, c⟩; omega
  | d + 1, l => by
    show g ∈ _ ++ _ ↔ _
    rw [List.mem_append, mem_unL d (l + 1)]
    constructor
    · rintro (x | ⟨l', a, b, c⟩)
      · exact ⟨l, Nat.le_refl _, by omega, x⟩
      · exact ⟨l', by omega, by omega, c⟩
    · rintro ⟨l', a, b, c⟩
      by_cases e : l' = l
      · left; rw [e] at c; exact c
      · exact Or.inr ⟨l', by omega, by omega, c⟩
theorem unL_len (kl : Nat → Nat → Nat → Option Nat) (u : Nat) : ∀ d l, (unL kl u d l).length ≤ 2 * d
  | 0, l => Nat.le_refl _
  | d + 1, l => by
    show (lkL l (kl u l 0) (kl u l 1) (kl u l 1) (kl u l 0) ++ unL kl u d (l + 1)).length ≤ _
    rw [List.length_append]
    have := lkL_len l (kl u l 0) (kl u l 1) (kl u l 1) (kl u l 0)
    have := unL_len kl u d (l + 1)
    omega
theorem na_unl {n : Nat} {nm bt : Nat → Int32} {be be' : Nat → Nat} {kl kl' : Nat → Nat → Nat → Option Nat} {L : List MSG} {k u : Nat} (hD : nmD (n, nm, bt, be)) (hu : u < n) (hk : k ≤ 9) (e0 : be u = 2) (e1 : ∀ q, q ≠ u → be' q = be q) (e2 : 0 < k → be' u = 2) (e4 : ∀ z l d, z ≠ u → kl' z l d = kl z l d) (hL : ∀ g, g ∈ L → g_as g ≠ none) (h : netR (n, nm, bt, be) kl) :
    netA (n, nm, bt, be') kl' (L ++ unL kl u (9 - k) k) k u false := by
  have sy : ∀ l a b, rl (n, nm, bt, be) l a b → rl (n, nm, bt, be) l b a := fun _ _ _ => rl_sy
  have tr : ∀ l a b c, rl (n, nm, bt, be) l a b → rl (n, nm, bt, be) l b c → rl (n, nm, bt, be) l a c := fun _ _ _ _ => rl_tr
  have wL : ∀ l, l < k → ∀ q, wd (n, nm, bt, be') k u l q ↔ wd (n, nm, bt, be) 9 0 l q := by
    intro l hl q
    show (q < n ∧ be' q = 2 ∧ (q = u → l < k)) ↔ (q < n ∧ be q = 2 ∧ (q = 0 → l < 9))
    by_cases e : q = u
    · rw [e, e2 (by omega), e0]
      exact ⟨fun x => ⟨x.1, rfl, fun _ => by omega⟩, fun x => ⟨x.1, rfl, fun _ => hl⟩⟩
    · rw [e1 q e]
      exact ⟨fun x => ⟨x.1, x.2.1, fun _ => by omega⟩, fun x => ⟨x.1, x.2.1, fun z => absurd z e⟩⟩
  have wG : ∀ l, k ≤ l → l < 9 → ∀ q, wd (n, nm, bt, be') k u l q ↔ wd (n, nm, bt, be) 9 0 l q ∧ q ≠ u := by
    intro l hl h9 q
    show (q < n ∧ be' q = 2 ∧ (q = u → l < k)) ↔ (q < n ∧ be q = 2 ∧ (q = 0 → l < 9)) ∧ q ≠ u
    by_cases e : q = u
    · exact ⟨fun x => absurd (x.2.2 e) (by omega), fun x => absurd e x.2⟩
    · rw [e1 q e]
      exact ⟨fun x => ⟨⟨x.1, x.2.1, fun _ => h9⟩, e⟩, fun x => ⟨x.1.1, x.1.2.1, fun z => absurd z e⟩⟩
  have U : ∀ l, l < 9 → ∀ d, d < 2 → NS (n, nm, bt, be) 9 0 l u d (kl u l d) := fun l hl d hd => h u hu e0 l hl d hd
  have inj : ∀ l, ∀ a b, wd (n, nm, bt, be) 9 0 l a → wd (n, nm, bt, be) 9 0 l b → kn (n, nm, bt, be) a = kn (n, nm, bt, be) b → a = b := fun l => wd_inj hD 9 0 l
  have wu : ∀ l, l < 9 → wd (n, nm, bt, be) 9 0 l u := fun l hl => ⟨hu, e0, fun _ => hl⟩
  have nw : ∀ l, k ≤ l → l < 9 → ∀ d, d < 2 → ∀ p, kl u l (1 - d) = some p → p < n ∧ be' p = 2 ∧ p ≠ u ∧ kyd (kn (n, nm, bt, be)) d p < kyd (kn (n, nm, bt, be)) d u ∧ NS (n, nm, bt, be') k u l p d (kl u l d) := by
    intro l hl h9 d hd p hp
    have x := U l h9 (1 - d) (by omega)
    rw [hp] at x
    have y := nx_sym (by omega) (sy l) (tr l) (wu l h9) x
    rw [show 1 - (1 - d) = d by omega] at y
    have pu : p ≠ u := fun e => by
      have := x.2.2.1
      rw [e] at this
      omega
    exact ⟨x.1.1, by rw [e1 p pu]; exact x.1.2.1, pu, y.2.2.1, nx_rem2 (inj l) (sy l) (tr l) (wG l hl h9) y (U l h9 d hd)⟩
  refine ⟨fun g hg g1 g2 => ?_, fun z z1 z2 z3 l hl d hd => ?_, ?_⟩
  · rcases List.mem_append.mp hg with x | x
    · exact absurd g1 (hL g x)
    · obtain ⟨l, l1, l2, l3⟩ := (mem_unL _ _).mp x
      rcases mem_lkL.mp l3 with ⟨p, p1, p2⟩ | ⟨p, p1, p2⟩
      · subst p2
        obtain ⟨q1, q2, q3, q4, q5⟩ := nw l l1 (by omega) 1 (by decide) p p1
        exact ⟨l, rfl, by omega, (show (1 : Nat) < 2 by decide), q1, q2, q3, q4, q5, fun z => absurd z (by decide)⟩
      · subst p2
        obtain ⟨q1, q2, q3, q4, q5⟩ := nw l l1 (by omega) 0 (by decide) p p1
        exact ⟨l, rfl, by omega, (show (0 : Nat) < 2 by decide), q1, q2, q3, q4, q5, fun z => absurd z (by decide)⟩
  · have z2' : be z = 2 := by rw [← e1 z z3]; exact z2
    have nz := h z z1 z2' l hl d hd
    rw [e4 z l d z3]
    by_cases e : l < k
    · exact Or.inl (nx_cg (wL l e) (fun _ _ => Iff.rfl) (fun _ _ => rfl) rfl nz)
    · by_cases c : kl z l d = some u
      · right
        rw [c] at nz
        have y := nx_sym hd (sy l) (tr l) (⟨z1, z2', fun _ => hl⟩ : wd (n, nm, bt, be) 9 0 l z) nz
        have y2 := nx_uniq (inj l) (U l hl (1 - d) (by omega)) y
        by_cases f : d = 1
        · rw [f] at y2
          exact ⟨(7, z, none, some l, 1, none, kl u l 1), List.mem_append_right _ ((mem_unL _ _).mpr ⟨l, by omega, by omega, mem_lkL.mpr (Or.inl ⟨z, y2, rfl⟩)⟩), rfl, rfl, rfl, rfl, f.symm⟩
        · have f0 : d = 0 := by omega
          rw [f0] at y2
          exact ⟨(7, z, none, some l, 0, kl u l 0, none), List.mem_append_right _ ((mem_unL _ _).mpr ⟨l, by omega, by omega, mem_lkL.mpr (Or.inr ⟨z, y2, rfl⟩)⟩), rfl, rfl, rfl, rfl, f0.symm⟩
      · exact Or.inl (nx_rem1 (wG l (by omega) hl) nz c)
  · have e : L.filter isLk = [] := List.filter_eq_nil_iff.mpr (fun g hg z => hL g hg (isLk_iff.mp z).1)
    rw [List.filter_append, e, List.nil_append]
    have y1 := fl_len isLk (unL kl u (9 - k) k)
    have y2 := unL_len kl u (9 - k) k
    show _ ≤ 18
    omega
/-- a LINK comes to z -/
theorem na_lk {v : VV} {kl kl' : Nat → Nat → Nat → Option Nat} {L : List MSG} {k u i l : Nat} {b : Bool} {g : MSG} (h : netA v kl L k u b) (hg : L[i]? = some g) (g1 : g_as g = none) (g2 : g_so g = 7) (hl : g_lv g = some l) (x1 : kl' (g_to g) l (g_sd g) = whoOf g) (x2 : ∀ z' l' d', d' < 2 → ¬ (z' = g_to g ∧ l' = l ∧ d' = g_sd g) → kl' z' l' d' = kl z' l' d' ∨ (z' = g_to g ∧ l < l' ∧ kl' z' l' d' = none ∧ whoOf g = none ∧ kl (g_to g) l (1 - g_sd g) = none)) : netA v kl' (L.eraseIdx i) k u b := by
  obtain ⟨h1, h2, h3⟩ := h
  obtain ⟨l0, l1, l2, l3, l4, l5, l6, l7, l8, l9⟩ := h1 g (List.mem_of_getElem? hg) g1 g2
  rw [hl] at l1
  have := Option.some.inj l1
  subst this
  refine ⟨fun g hg a c => h1 g (List.mem_of_mem_eraseIdx hg) a c, fun z z1 z2 z3 l' hl' d hd => ?_, ?_⟩
  · by_cases e : z = g_to g ∧ l' = l ∧ d = g_sd g
    · obtain ⟨e1, e2, e3⟩ := e
      rw [e1, e2, e3, x1]
      exact Or.inl l8
    · rcases x2 z l' d hd e with y | ⟨y1, y2, y3, y4, y5⟩
      · rw [y]
        rcases h2 z z1 z2 z3 l' hl' d hd with w | ⟨g', w1, w2, w3, w4, w5, w6⟩
        · exact Or.inl w
        · rcases ls_er L i g g' hg w1 with t | t
          · exact Or.inr ⟨g', t, w2, w3, w4, w5, w6⟩
          · exfalso
            rw [t] at w4 w5 w6
            rw [hl] at w5
            exact e ⟨w4.symm, (Option.some.inj w5).symm, w6.symm⟩
      · left
        rw [y3, y1]
        have n1 : NS v k u l (g_to g) (g_sd g) none := by rw [← y4]; exact l8
        have n2 : NS v k u l (g_to g) (1 - g_sd g) none := by
          rcases h2 (g_to g) l4 l5 l6 l l2 (1 - g_sd g) (by omega) with w | ⟨g', w1, w2, w3, w4, w5, w6⟩
          · rw [y5] at w; exact w
          · exfalso
            obtain ⟨m0, m1, m2, m3, m4, m5, m6, m7, m8, m9⟩ := h1 g' w1 w2 w3
            rw [w4, w6, kyd_op _ l3, kyd_op _ l3] at m7
            omega
        have up : ∀ d', NS v k u l (g_to g) d' none → NS v k u l' (g_to g) d' none := fun d' w => by
          refine nx_none (fun q q1 q2 _ => ⟨⟨q1.1, q1.2.1, fun z => by have := q1.2.2 z; omega⟩, ?_⟩) w
          obtain ⟨t, rfl⟩ : ∃ t, l' = l + t := ⟨l' - l, by omega⟩
          exact rl_le t (by omega) q2
        by_cases f : d = g_sd g
        · rw [f]; exact up _ n1
        · rw [show d = 1 - g_sd g by omega]; exact up _ n2
  · have := ls_f1 L i g hg (isLk_iff.mpr ⟨g1, g2⟩)
    omega
theorem no_pend {L : List MSG} (h : L.filter isLk = []) {z l d : Nat} : ¬ pend L z l d := by
  rintro ⟨g, w1, w2, w3, -⟩
  have : g ∈ L.filter isLk := List.mem_filter.mpr ⟨w1, isLk_iff.mpr ⟨w2, w3⟩⟩
  rw [h] at this
  cases this
theorem no_lkm {L : List MSG} (h : L.filter isLk = []) {g : MSG} (hg : g ∈ L) (g1 : g_as g = none) : g_so g ≠ 7 := by
  intro g2
  have : g ∈ L.filter isLk := List.mem_filter.mpr ⟨hg, isLk_iff.mpr ⟨g1, g2⟩⟩
  rw [h] at this
  cases this
theorem na_ns {v : VV} {kl : Nat → Nat → Nat → Option Nat} {L : List MSG} {k u : Nat} {b : Bool} (h : netA v kl L k u b) (h0 : L.filter isLk = []) {z l d : Nat} (z1 : z < v.1) (z2 : v.2.2.2 z = 2) (z3 : z ≠ u) (hl : l < 9) (hd : d < 2) : NS v k u l z d (kl z l d) :=
  (h.2.1 z z1 z2 z3 l hl d hd).resolve_right (no_pend h0)
/-- new bits of u, which is of level 0 alone -/
theorem na_bits {n : Nat} {nm bt bt' : Nat → Int32} {be : Nat → Nat} {kl : Nat → Nat → Nat → Option Nat} {L : List MSG} {u : Nat} {b b' : Bool} (e1 : ∀ q, q ≠ u → bt' q = bt q) (h : netA (n, nm, bt, be) kl L 1 u b) (h0 : L.filter isLk = []) : netA (n, nm, bt', be) kl L 1 u b' := by
  refine ⟨fun g hg g1 g2 => absurd g2 (no_lkm h0 hg g1), fun z z1 z2 z3 l hl d hd => Or.inl ?_, by rw [h0]; exact Nat.zero_le _⟩
  refine nx_cg (fun _ => Iff.rfl) (fun q hq => ?_) (fun _ _ => rfl) rfl (na_ns h h0 z1 z2 z3 hl hd)
  by_cases e : l = 0
  · rw [e]; exact ⟨fun _ => rl_0 _ _ _, fun _ => rl_0 _ _ _⟩
  · have qu : q ≠ u := fun z => by have := hq.2.2 z; omega
    show lkb (bt' z) (bt' q) l = true ↔ lkb (bt z) (bt q) l = true
    rw [e1 z z3, e1 q qu]
theorem nu_bits {n : Nat} {nm bt bt' : Nat → Int32} {be : Nat → Nat} {u d : Nat} {o : Option Nat} (h : NU (n, nm, bt, be) u 0 d o) : NU (n, nm, bt', be) u 0 d o :=
  nx_cg (fun _ => Iff.rfl) (fun _ _ => ⟨fun _ => rl_0 _ _ _, fun _ => rl_0 _ _ _⟩) (fun _ _ => rfl) rfl h
theorem nu_up {v : VV} {u l l' d : Nat} (hl : l ≤ l') (h9 : l' ≤ 9) (h : NU v u l d none) : NU v u l' d none :=
  nx_none (fun q q1 q2 _ => ⟨q1, by
    obtain ⟨t, rfl⟩ : ∃ t, l' = l + t := ⟨l' - l, by omega⟩
    exact rl_le t (by omega) q2⟩) h
/-- the end of a coming: u is of all levels, or alone from k - 1 on -/
theorem na_end {v : VV} {hs : Nat → Nat → Bool} {kl : Nat → Nat → Nat → Option Nat} {L : List MSG} {k u : Nat} {b : Bool} (hD : nmD v) (hK : ∀ p l d, hs p l = false → kl p l d = none) (hu : u < v.1) (e0 : v.2.2.2 u = 2) (hk : 1 ≤ k) (h : netA v kl L k u b) (h0 : L.filter isLk = []) (hU : netU v hs kl k u) (hA : k = 9 ∨ ∀ d, d < 2 → NU v u (k - 1) d none) : netR v kl := by
  intro z z1 z2 l hl d hd
  have nu : k ≤ l → ∀ d, d < 2 → NU v u l d none := fun x d hd => by
    rcases hA with a | a
    · omega
    · exact nu_up (by omega) (by omega) (a d hd)
  have wU : ∀ q, q ≠ u → (wd v 9 0 l q ↔ wd v 0 u 0 q) := fun q e => ⟨fun x => ⟨x.1, x.2.1, fun z => absurd z e⟩, fun x => ⟨x.1, x.2.1, fun _ => hl⟩⟩
  by_cases e : z = u
  · rw [e]
    by_cases x : l < k
    · exact nx_self wU (hU.1 l x d hd)
    · rw [hK u l d (hU.2 l (by omega) hl)]
      exact nx_self wU (nu (by omega) d hd)
  · have a := na_ns h h0 z1 z2 e hl hd
    by_cases x : l < k
    · refine nx_cg (fun q => ?_) (fun _ _ => Iff.rfl) (fun _ _ => rfl) rfl a
      exact ⟨fun y => ⟨y.1, y.2.1, fun _ => x⟩, fun y => ⟨y.1, y.2.1, fun _ => hl⟩⟩
    · have c := nu (by omega) (1 - d) (by omega)
      have c' : NX (wd v k u l) (rl v l) (kn v) u (1 - d) none := nx_self (fun q e => ⟨fun x => ⟨x.1, x.2.1, fun z => absurd z e⟩, fun x => ⟨x.1, x.2.1, fun z => absurd z e⟩⟩) c
      refine nx_add2 hd (wd_inj hD k u l) (fun _ _ => rl_sy) (fun _ _ _ => rl_tr) ⟨z1, z2, fun y => absurd y e⟩ (fun q => ?_) c' (fun y => by cases y) a
      by_cases f : q = u
      · rw [f]; exact ⟨fun _ => Or.inr rfl, fun _ => ⟨hu, e0, fun _ => hl⟩⟩
      · exact ⟨fun y => Or.inl ⟨y.1, y.2.1, fun z => absurd z f⟩, fun y => by
          rcases y with y | y
          · exact ⟨y.1, y.2.1, fun _ => hl⟩
          · exact absurd y f⟩
/-- the end of a going -/
theorem na_gone {n : Nat} {nm bt : Nat → Int32} {be be' : Nat → Nat} {kl kl' : Nat → Nat → Nat → Option Nat} {L : List MSG} {u : Nat} {b : Bool} (e1 : ∀ q, q ≠ u → be' q = be q) (e2 : be' u ≠ 2) (e4 : ∀ z l d, z ≠ u → kl' z l d = kl z l d) (h : netA (n, nm, bt, be) kl L 0 u b) (h0 : L.filter isLk = []) : netR (n, nm, bt, be') kl' := by
  intro z z1 z2 l hl d hd
  have zu : z ≠ u := fun e => e2 (by rw [← e]; exact z2)
  rw [e4 z l d zu]
  refine nx_cg (fun q => ?_) (fun _ _ => Iff.rfl) (fun _ _ => rfl) rfl (na_ns h h0 z1 (show be z = 2 by rw [← e1 z zu]; exact z2) zu hl hd)
  show (q < n ∧ be' q = 2 ∧ (q = 0 → l < 9)) ↔ (q < n ∧ be q = 2 ∧ (q = u → l < 0))
  by_cases e : q = u
  · exact ⟨fun x => absurd (by rw [← e]; exact x.2.1) e2, fun x => absurd (x.2.2 e) (by omega)⟩
  · rw [e1 q e]
    exact ⟨fun x => ⟨x.1, x.2.1, fun z => absurd z e⟩, fun x => ⟨x.1, x.2.1, fun _ => hl⟩⟩
