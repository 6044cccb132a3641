/-! what holds of the rows between the calls -/
abbrev VV : Type := Nat × (Nat → Int32) × (Nat → Int32) × (Nat → Nat)
def vw (s : ST) : VV := (c_n s, c_nm s, c_bt s, c_be s)
/-- who is of level l: those that are IN, u itself only below k -/
def wd (v : VV) (k u l q : Nat) : Prop := q < v.1 ∧ v.2.2.2 q = 2 ∧ (q = u → l < k)
def rl (v : VV) (l a b : Nat) : Prop := lkb (v.2.2.1 a) (v.2.2.1 b) l = true
def kn (v : VV) (z : Nat) : Int := (v.2.1 z).toInt
def NS (v : VV) (k u l z d : Nat) (o : Option Nat) : Prop := NX (wd v k u l) (rl v l) (kn v) z d o
def NU (v : VV) (u l d : Nat) (o : Option Nat) : Prop := NX (wd v 0 u 0) (rl v l) (kn v) u d o
def nmD (v : VV) : Prop := ∀ a b, a < v.1 → b < v.1 → v.2.1 a = v.2.1 b → a = b
theorem lkb_iff (x y : Int32) (l : Nat) : lkb x y l = true ↔ x &&& ((1 : Int32) <<< (nI l &&& 31) - 1) = y &&& ((1 : Int32) <<< (nI l &&& 31) - 1) := by
  unfold lkb
  rw [beq_iff_eq]
  generalize ((1 : Int32) <<< (nI l &&& 31) - 1) = m
  have e : (x ^^^ y) &&& m = (x &&& m) ^^^ (y &&& m) := by
    apply Int32.toBitVec_inj.mp
    rw [Int32.toBitVec_and, Int32.toBitVec_xor, Int32.toBitVec_xor, Int32.toBitVec_and, Int32.toBitVec_and]
    apply BitVec.eq_of_getElem_eq
    intro i hi
    rw [BitVec.getElem_and, BitVec.getElem_xor, BitVec.getElem_xor, BitVec.getElem_and, BitVec.getElem_and]
    cases x.toBitVec[i] <;> cases y.toBitVec[i] <;> cases m.toBitVec[i] <;> rfl
  rw [e, Int32.xor_eq_zero_iff]
theorem rl_rf (v : VV) (l a : Nat) : rl v l a a := (lkb_iff _ _ _).mpr rfl
theorem rl_sy {v : VV} {l a b : Nat} (h : rl v l a b) : rl v l b a := (lkb_iff _ _ _).mpr ((lkb_iff _ _ _).mp h).symm
theorem rl_tr {v : VV} {l a b c : Nat} (h : rl v l a b) (h' : rl v l b c) : rl v l a c := (lkb_iff _ _ _).mpr (((lkb_iff _ _ _).mp h).trans ((lkb_iff _ _ _).mp h'))
theorem rl_1 {v : VV} {l a b : Nat} (hl : l < 9) (h : rl v (l + 1) a b) : rl v l a b := lkb_mono _ _ hl h
theorem rl_le {v : VV} {l a b : Nat} : ∀ d, l + d ≤ 9 → rl v (l + d) a b → rl v l a b
  | 0, _, h => h
  | d + 1, hd, h => rl_le d (by omega) (rl_1 (by omega) h)
theorem rl_0 (v : VV) (a b : Nat) : rl v 0 a b := by
  apply (lkb_iff _ _ _).mpr
  have e : ((1 : Int32) <<< (nI 0 &&& 31) - 1) = 0 := by decide
  rw [e, Int32.and_zero, Int32.and_zero]
theorem kn_inj {v : VV} (hD : nmD v) {a b : Nat} (ha : a < v.1) (hb : b < v.1) (h : kn v a = kn v b) : a = b := hD a b ha hb (Int32.toInt_inj.mp h)
theorem wd_inj {v : VV} (hD : nmD v) (k u l : Nat) : ∀ a b, wd v k u l a → wd v k u l b → kn v a = kn v b → a = b := fun _ _ ha hb h => kn_inj hD ha.1 hb.1 h
def isLk (g : MSG) : Bool := (g_as g).isNone && g_so g == 7
def isTk (g : MSG) : Bool := (g_as g).isNone && g_so g != 7
theorem isLk_iff {g : MSG} : isLk g = true ↔ g_as g = none ∧ g_so g = 7 := by
  unfold isLk
  rw [Bool.and_eq_true, Option.isNone_iff_eq_none, beq_iff_eq]
theorem isTk_iff {g : MSG} : isTk g = true ↔ g_as g = none ∧ g_so g ≠ 7 := by
  unfold isTk
  rw [Bool.and_eq_true, Option.isNone_iff_eq_none, bne_iff_ne]
def whoOf (g : MSG) : Option Nat := if g_sd g = 0 then g_lf g else g_rg g
def lkO (v : VV) (k u : Nat) (b : Bool) (g : MSG) : Prop := ∃ l, g_lv g = some l ∧ l < 9 ∧ g_sd g < 2 ∧ g_to g < v.1 ∧ v.2.2.2 (g_to g) = 2 ∧ g_to g ≠ u ∧ kyd (kn v) (g_sd g) (g_to g) < kyd (kn v) (g_sd g) u ∧ NS v k u l (g_to g) (g_sd g) (whoOf g) ∧ (b = true → l < k)
def pend (L : List MSG) (z l d : Nat) : Prop := ∃ g, g ∈ L ∧ g_as g = none ∧ g_so g = 7 ∧ g_to g = z ∧ g_lv g = some l ∧ g_sd g = d
/-- each place of those that are IN (but u's) holds what it is to hold, or a LINK of it is under way -/
def netA (v : VV) (kl : Nat → Nat → Nat → Option Nat) (L : List MSG) (k u : Nat) (b : Bool) : Prop :=
  (∀ g, g ∈ L → g_as g = none → g_so g = 7 → lkO v k u b g) ∧ (∀ z, z < v.1 → v.2.2.2 z = 2 → z ≠ u → ∀ l, l < 9 → ∀ d, d < 2 → NS v k u l z d (kl z l d) ∨ pend L z l d) ∧ (L.filter isLk).length ≤ (if b = true then 2 * k else 18)
def netR (v : VV) (kl : Nat → Nat → Nat → Option Nat) : Prop := ∀ z, z < v.1 → v.2.2.2 z = 2 → ∀ l, l < 9 → ∀ d, d < 2 → NS v 9 0 l z d (kl z l d)
def netU (v : VV) (hs : Nat → Nat → Bool) (kl : Nat → Nat → Nat → Option Nat) (k u : Nat) : Prop := (∀ l, l < k → ∀ d, d < 2 → NU v u l d (kl u l d)) ∧ ∀ l, k ≤ l → l < 9 → hs u l = false
def seekO (v : VV) (u z l d : Nat) : Prop := z < v.1 ∧ v.2.2.2 z = 2 ∧ z ≠ u ∧ d < 2 ∧ rl v l u z ∧ kyd (kn v) d u < kyd (kn v) d z ∧ (∀ q, wd v 0 u 0 q → rl v (l + 1) u q → kyd (kn v) d u < kyd (kn v) d q → kyd (kn v) d z ≤ kyd (kn v) d q) ∧ (d = 0 → NU v u (l + 1) 1 none)
def growO (v : VV) (u k : Nat) (T : List MSG) : Prop :=
  (T = [] ∧ (k = 9 ∨ ∀ d, d < 2 → NU v u (k - 1) d none)) ∨ (∃ l z d, k = l + 1 ∧ l < 8 ∧ T = [(8, z, none, some l, d, none, none)] ∧ seekO v u z l d) ∨ (∃ a b, k < 9 ∧ T = [(9, u, none, some k, 0, a, b)] ∧ NU v u k 0 a ∧ NU v u k 1 b)
theorem pend_ap {L X : List MSG} {z l d : Nat} (h : pend L z l d) : pend (L ++ X) z l d := by
  obtain ⟨g, h1, h2⟩ := h
  exact ⟨g, List.mem_append_left _ h1, h2⟩
theorem na_ap {v : VV} {kl : Nat → Nat → Nat → Option Nat} {L X : List MSG} {k u : Nat} {b : Bool} (h : netA v kl L k u b) (hX : ∀ g, g ∈ X → isLk g = false) : netA v kl (L ++ X) k u b := by
  obtain ⟨h1, h2, h3⟩ := h
  refine ⟨fun g hg a c => ?_, fun z z1 z2 z3 l hl d hd => ?_, ?_⟩
  · rcases List.mem_append.mp hg with x | x
    · exact h1 g x a c
    · exact absurd (isLk_iff.mpr ⟨a, c⟩) (by rw [hX g x]; decide)
  · rcases h2 z z1 z2 z3 l hl d hd with x | x
    · exact Or.inl x
    · exact Or.inr (pend_ap x)
  · have e : X.filter isLk = [] := List.filter_eq_nil_iff.mpr (fun g hg => by rw [hX g hg]; decide)
    rw [List.filter_append, e, List.append_nil]
    exact h3
theorem na_er {v : VV} {kl : Nat → Nat → Nat → Option Nat} {L : List MSG} {k u i : Nat} {b : Bool} {g : MSG} (h : netA v kl L k u b) (hg : L[i]? = some g) (hX : isLk g = false) : netA v kl (L.eraseIdx i) k u b := by
  obtain ⟨h1, h2, h3⟩ := h
  refine ⟨fun g hg a c => h1 g (List.mem_of_mem_eraseIdx hg) a c, fun z z1 z2 z3 l hl d hd => ?_, ?_⟩
  · rcases h2 z z1 z2 z3 l hl d hd with x | ⟨g', x1, x2, x3, x4⟩
    · exact Or.inl x
    · rcases ls_er L i g g' hg x1 with y | y
      · exact Or.inr ⟨g', y, x2, x3, x4⟩
      · rw [y] at x2 x3
        exact absurd (isLk_iff.mpr ⟨x2, x3⟩) (by rw [hX]; decide)
  · rw [ls_f0 L i g hg hX]; exact h3
/-! the LINKS of a level -/
def lkL (l : Nat) (a b wa wb : Option Nat) : List MSG := a.toList.map (fun p => (7, p, none, some l, 1, none, wa)) ++ b.toList.map (fun p => (7, p, none, some l, 0, wb, none))
theorem mem_lkL {l : Nat} {a b wa wb : Option Nat} {g : MSG} : g ∈ lkL l a b wa wb ↔ (∃ p, a = some p ∧ g = (7, p, none, some l, 1, none, wa)) ∨ (∃ p, b = some p ∧ g = (7, p, none, some l, 0, wb, none)) := by
  unfold lkL
  rw [List.mem_append]
  refine or_congr ?_ ?_
  · cases a with
    | none => simp
    | some x => simp
  · cases b with
    | none => simp
    | some x => simp
theorem lkL_len (l : Nat) (a b wa wb : Option Nat) : (lkL l a b wa wb).length ≤ 2 := by
  unfold lkL
  cases a <;> cases b <;> simp
theorem fl_len {α : Type} (p : α → Bool) (L : List α) : (L.filter p).length ≤ L.length := List.length_filter_le _ _
/-- u comes to level k, between a and b -/
theorem na_grow {n : Nat} {nm bt : Nat → Int32} {be be' : Nat → Nat} {kl kl' : Nat → Nat → Nat → Option Nat} {L : List MSG} {k u : Nat} {a b : Option Nat} (hD : nmD (n, nm, bt, be)) (hu : u < n) (hk : k < 9) (e1 : ∀ q, q ≠ u → be' q = be q) (e2 : be' u = 2) (e3 : 0 < k → be u = 2) (e4 : ∀ z l d, z ≠ u → kl' z l d = kl z l d) (h : netA (n, nm, bt, be) kl L k u true) (ha : NU (n, nm, bt, be) u k 0 a) (hb : NU (n, nm, bt, be) u k 1 b) :
    netA (n, nm, bt, be') kl' (L ++ lkL k a b (some u) (some u)) (k + 1) u true := by
  obtain ⟨h1, h2, h3⟩ := h
  have sy : ∀ a b, rl (n, nm, bt, be) k a b → rl (n, nm, bt, be) k b a := fun _ _ => rl_sy
  have tr : ∀ a b c, rl (n, nm, bt, be) k a b → rl (n, nm, bt, be) k b c → rl (n, nm, bt, be) k a c := fun _ _ _ => rl_tr
  have wO : ∀ l, l ≠ k → ∀ q, wd (n, nm, bt, be') (k + 1) u l q ↔ wd (n, nm, bt, be) k u l q := by
    intro l hl q
    show (q < n ∧ be' q = 2 ∧ (q = u → l < k + 1)) ↔ (q < n ∧ be q = 2 ∧ (q = u → l < k))
    by_cases e : q = u
    · rw [e, e2]
      constructor
      · rintro ⟨x1, x2, x3⟩
        have := x3 rfl
        exact ⟨x1, e3 (by omega), fun _ => by omega⟩
      · rintro ⟨x1, x2, x3⟩
        have := x3 rfl
        exact ⟨x1, rfl, fun _ => by omega⟩
    · rw [e1 q e]
      exact ⟨fun x => ⟨x.1, x.2.1, fun z => absurd z e⟩, fun x => ⟨x.1, x.2.1, fun z => absurd z e⟩⟩
  have wK : ∀ q, wd (n, nm, bt, be') (k + 1) u k q ↔ wd (n, nm, bt, be) k u k q ∨ q = u := by
    intro q
    show (q < n ∧ be' q = 2 ∧ (q = u → k < k + 1)) ↔ (q < n ∧ be q = 2 ∧ (q = u → k < k)) ∨ q = u
    by_cases e : q = u
    · rw [e, e2]
      exact ⟨fun _ => Or.inr rfl, fun _ => ⟨hu, rfl, fun _ => by omega⟩⟩
    · rw [e1 q e]
      exact ⟨fun x => Or.inl ⟨x.1, x.2.1, fun z => absurd z e⟩, fun x => by
        rcases x with x | x
        · exact ⟨x.1, x.2.1, fun z => absurd z e⟩
        · exact absurd x e⟩
  have wU : ∀ q, q ≠ u → (wd (n, nm, bt, be) k u k q ↔ wd (n, nm, bt, be) 0 u 0 q) := by
    intro q e
    exact ⟨fun x => ⟨x.1, x.2.1, fun z => absurd z e⟩, fun x => ⟨x.1, x.2.1, fun z => absurd z e⟩⟩
  have cU : ∀ d, d < 2 → NX (wd (n, nm, bt, be) k u k) (rl (n, nm, bt, be) k) (kn (n, nm, bt, be)) u (1 - d) (if d = 1 then a else b) := by
    intro d hd
    by_cases e : d = 1
    · subst e
      exact nx_self wU ha
    · have : d = 0 := by omega
      subst this
      exact nx_self wU hb
  have inj := wd_inj hD k u k
  have nw : ∀ d z, d < 2 → (if d = 1 then a else b) = some z → z < n ∧ be' z = 2 ∧ z ≠ u ∧ kyd (kn (n, nm, bt, be)) d z < kyd (kn (n, nm, bt, be)) d u ∧ NS (n, nm, bt, be') (k + 1) u k z d (some u) := by
    intro d z hd c
    have x := cU d hd
    rw [c] at x
    have y : NS (n, nm, bt, be') (k + 1) u k z d (some u) := nx_add1 hd sy tr wK x
    have zu : z ≠ u := fun e => by
      have := x.2.2.1
      rw [e] at this
      omega
    exact ⟨x.1.1, by rw [e1 z zu]; exact x.1.2.1, zu, y.2.2.1, y⟩
  refine ⟨fun g hg g1 g2 => ?_, fun z z1 z2 z3 l hl d hd => ?_, ?_⟩
  · rcases List.mem_append.mp hg with x | x
    · obtain ⟨l, l1, l2, l3, l4, l5, l6, l7, l8, l9⟩ := h1 g x g1 g2
      have := l9 rfl
      exact ⟨l, l1, l2, l3, l4, by show be' (g_to g) = 2; rw [e1 _ l6]; exact l5, l6, l7, nx_cg (wO l (by omega)) (fun _ _ => Iff.rfl) (fun _ _ => rfl) rfl l8, fun _ => by omega⟩
    · rcases mem_lkL.mp x with ⟨p, p1, p2⟩ | ⟨p, p1, p2⟩
      · subst p2
        obtain ⟨q1, q2, q3, q4, q5⟩ := nw 1 p (by decide) p1
        exact ⟨k, rfl, hk, (show (1 : Nat) < 2 by decide), q1, q2, q3, q4, q5, fun _ => Nat.lt_succ_self k⟩
      · subst p2
        obtain ⟨q1, q2, q3, q4, q5⟩ := nw 0 p (by decide) p1
        exact ⟨k, rfl, hk, (show (0 : Nat) < 2 by decide), q1, q2, q3, q4, q5, fun _ => Nat.lt_succ_self k⟩
  · have z2' : be z = 2 := by rw [← e1 z z3]; exact z2
    rw [e4 z l d z3]
    by_cases e : l = k
    · rw [e]
      have nsz : NS (n, nm, bt, be) k u k z d (kl z k d) := by
        rcases h2 z z1 z2' z3 k hk d hd with x | ⟨g, x1, x2, x3, x4, x5, x6⟩
        · exact x
        · obtain ⟨l', l1, l2, l3, l4, l5, l6, l7, l8, l9⟩ := h1 g x1 x2 x3
          rw [x5] at l1
          have := Option.some.inj l1
          have := l9 rfl
          omega
      by_cases c : (if d = 1 then a else b) = some z
      · right
        by_cases f : d = 1
        · rw [if_pos f] at c
          exact ⟨(7, z, none, some k, 1, none, some u), List.mem_append_right _ (mem_lkL.mpr (Or.inl ⟨z, c, rfl⟩)), rfl, rfl, rfl, rfl, f.symm⟩
        · rw [if_neg f] at c
          exact ⟨(7, z, none, some k, 0, some u, none), List.mem_append_right _ (mem_lkL.mpr (Or.inr ⟨z, c, rfl⟩)), rfl, rfl, rfl, rfl, by show 0 = d; omega⟩
      · exact Or.inl (nx_add2 hd inj sy tr ⟨z1, z2', fun x => absurd x z3⟩ wK (cU d hd) c nsz)
    · rcases h2 z z1 z2' z3 l hl d hd with x | x
      · exact Or.inl (nx_cg (wO l e) (fun _ _ => Iff.rfl) (fun _ _ => rfl) rfl x)
      · exact Or.inr (pend_ap x)
  · rw [List.filter_append, List.length_append]
    have y1 := fl_len isLk (lkL k a b (some u) (some u))
    have y2 := lkL_len k a b (some u) (some u)
    rw [if_pos rfl] at h3 ⊢
    omega
