/-! what holds between the calls: all of it -/
def hKl (hs : Nat → Nat → Bool) (kl : Nat → Nat → Nat → Option Nat) : Prop := (∀ p l d, hs p l = false → kl p l d = none) ∧ ∀ p l d, 9 ≤ l → kl p l d = none
def I_b (s : ST) : Prop := c_n s ≤ 32 ∧ nmD (vw s) ∧ hKl (c_hs s) (c_kl s) ∧ CLs s
def prO (ev : List Int32) (L : PRS) : Prop := srt L ∧ ∀ q, q ∈ L → q.1 ∈ ev
def I_p (s : ST) : Prop := (∀ p, p < c_n s → prO (c_ev s) (c_pr s p)) ∧ prO (c_ev s) (c_bg s) ∧ (c_ev s).length ≤ 16
def mq (n na : Nat) (ak : Nat → AK) (L : List MSG) : Prop := (∀ g, g ∈ L → g_to g < n ∧ ∀ k, g_as g = some k → k < na ∧ a_dn (ak k) = false ∧ g_so g = a_so (ak k)) ∧ (L.filterMap g_as).Nodup
def akO (t na : Nat) (ak : Nat → AK) (ev : List Int32) : Prop := na ≤ 160 ∧ ∀ k, k < na → a_so (ak k) ≤ 4 ∧ a_ps (ak k) ≤ t ∧ a_nt (ak k) ≤ t ∧ (a_so (ak k) = 3 → a_lo (ak k) ∈ ev)
def I_q (t : Nat) (s : ST) : Prop := akO t (c_na s) (c_ak s) (c_ev s) ∧ mq (c_n s) (c_na s) (c_ak s) (c_ms s)
def tkL (s : ST) : List MSG := (c_ms s).filter isTk
def netC (s : ST) (k : Nat) (b : Bool) : Prop := c_cp s < c_n s ∧ (∀ p, p < c_n s → p ≠ c_cp s → c_be s p = 0 ∨ c_be s p = 2) ∧ netA (vw s) (c_kl s) (c_ms s) k (c_cp s) b
def ph0 (s : ST) : Prop := c_ck s = 0 ∧ c_cu s = false ∧ (∀ p, p < c_n s → c_be s p = 0 ∨ c_be s p = 2) ∧ (∀ g, g ∈ c_ms s → g_as g ≠ none) ∧ netR (vw s) (c_kl s)
def ph1 (s : ST) : Prop := c_ck s = 1 ∧ c_cu s = false ∧ c_be s (c_cp s) = 1 ∧ netC s 0 true ∧ ((c_bg s = [] ∧ ∃ w, tkL s = [(5, w, none, none, 0, none, none)] ∧ w < c_n s ∧ c_be s w = 2) ∨ ∃ a b, tkL s = [(6, c_cp s, none, none, 0, a, b)] ∧ NU (vw s) (c_cp s) 0 0 a ∧ NU (vw s) (c_cp s) 0 1 b)
def ph2 (s : ST) (k : Nat) : Prop := (c_ck s = 1 ∨ c_ck s = 3) ∧ c_cu s = false ∧ c_be s (c_cp s) = 2 ∧ 1 ≤ k ∧ k ≤ 9 ∧ netC s k true ∧ netU (vw s) (c_hs s) (c_kl s) k (c_cp s) ∧ growO (vw s) (c_cp s) k (tkL s)
def ph3 (s : ST) : Prop := c_ck s = 3 ∧ c_cu s = true ∧ c_be s (c_cp s) = 2 ∧ netC s 1 false ∧ netU (vw s) (c_hs s) (c_kl s) 1 (c_cp s) ∧ tkL s = []
def ph4 (s : ST) : Prop := c_ck s = 2 ∧ c_cu s = false ∧ c_be s (c_cp s) = 3 ∧ netC s 0 false ∧ (tkL s = [] ∨ ∃ w, tkL s = [(10, w, none, none, 0, none, none)] ∧ w < c_n s)
def I_c (s : ST) : Prop := ph1 s ∨ (∃ k, ph2 s k) ∨ ph3 s ∨ ph4 s
def I_0 (t : Nat) (s : ST) : Prop := I_b s ∧ I_p s ∧ I_q t s ∧ (ph0 s ∨ I_c s)
def INV (t : Nat) (s : ST) : Prop := I_0 t s ∧ (0 < c_ck s → 0 < chM s)
/-! how many messages -/
theorem ls_ch : ∀ L : List MSG, (L.filter fun g => (g_as g).isNone).length = (L.filter isLk).length + (L.filter isTk).length
  | [] => rfl
  | g :: L => by
    have ih := ls_ch L
    rw [List.filter_cons, List.filter_cons, List.filter_cons]
    by_cases h : g_as g = none
    · by_cases h7 : g_so g = 7
      · rw [if_pos (by rw [h]; rfl), if_pos (isLk_iff.mpr ⟨h, h7⟩), if_neg (fun z => (isTk_iff.mp z).2 h7), List.length_cons, List.length_cons]
        omega
      · rw [if_pos (by rw [h]; rfl), if_neg (fun z => h7 (isLk_iff.mp z).2), if_pos (isTk_iff.mpr ⟨h, h7⟩), List.length_cons, List.length_cons]
        omega
    · rw [if_neg (fun z => h (Option.isNone_iff_eq_none.mp z)), if_neg (fun z => h (isLk_iff.mp z).1), if_neg (fun z => h (isTk_iff.mp z).1)]
      exact ih
theorem ls_all : ∀ L : List MSG, L.length = (L.filterMap g_as).length + (L.filter fun g => (g_as g).isNone).length
  | [] => rfl
  | g :: L => by
    have ih := ls_all L
    cases h : g_as g with
    | none =>
      rw [List.filterMap_cons_none h, List.filter_cons_of_pos (by rw [h]; rfl), List.length_cons, List.length_cons]
      omega
    | some k =>
      rw [List.filterMap_cons_some h, List.filter_cons_of_neg (by rw [h]; intro z; cases z), List.length_cons, List.length_cons]
      omega
theorem chM_eq (s : ST) : chM s = ((c_ms s).filter isLk).length + (tkL s).length := ls_ch _
theorem mq_len {n na : Nat} {ak : Nat → AK} {L : List MSG} (h : mq n na ak L) : (L.filterMap g_as).length ≤ na := by
  have := ls_len _ (List.range na) h.2 (fun x hx => by
    obtain ⟨g, g1, g2⟩ := List.mem_filterMap.mp hx
    exact List.mem_range.mpr ((h.1 g g1).2 x g2).1)
  rw [List.length_range] at this
  exact this
theorem ic_tk {s : ST} (h : I_c s) : (tkL s).length ≤ 1 ∧ ((c_ms s).filter isLk).length ≤ 18 ∧ ∀ g, g ∈ tkL s → g_as g = none ∧ 4 < g_so g ∧ g_so g ≤ 10 := by
  have one : ∀ (x : MSG) (n : Nat), g_as x = none → g_so x = n → 4 < n → n ≤ 10 → tkL s = [x] → (tkL s).length ≤ 1 ∧ ∀ g, g ∈ tkL s → g_as g = none ∧ 4 < g_so g ∧ g_so g ≤ 10 := fun x n x1 x0 x2 x3 e => by
    rw [e]
    exact ⟨Nat.le_refl _, fun g hg => by rw [List.mem_singleton.mp hg, x0]; exact ⟨x1, x2, x3⟩⟩
  have nul : tkL s = [] → (tkL s).length ≤ 1 ∧ ∀ g, g ∈ tkL s → g_as g = none ∧ 4 < g_so g ∧ g_so g ≤ 10 := fun e => by
    rw [e]
    exact ⟨Nat.zero_le _, fun g hg => by cases hg⟩
  rcases h with h | ⟨k, h⟩ | h | h
  · have b := h.2.2.2.1.2.2.2.2
    rw [if_pos rfl] at b
    rcases h.2.2.2.2 with ⟨-, w, e, -⟩ | ⟨x, y, e, -⟩
    · have := one _ 5 rfl rfl (by decide) (by decide) e
      exact ⟨this.1, by omega, this.2⟩
    · have := one _ 6 rfl rfl (by decide) (by decide) e
      exact ⟨this.1, by omega, this.2⟩
  · obtain ⟨-, -, -, h1, h2, h3, -, h4⟩ := h
    have b := h3.2.2.2.2
    rw [if_pos rfl] at b
    rcases h4 with ⟨e, -⟩ | ⟨l, z, d, -, -, e, -⟩ | ⟨x, y, -, e, -⟩
    · have := nul e
      exact ⟨this.1, by omega, this.2⟩
    · have := one _ 8 rfl rfl (by decide) (by decide) e
      exact ⟨this.1, by omega, this.2⟩
    · have := one _ 9 rfl rfl (by decide) (by decide) e
      exact ⟨this.1, by omega, this.2⟩
  · have b := h.2.2.2.1.2.2.2.2
    rw [if_neg (by decide)] at b
    have := nul h.2.2.2.2.2
    exact ⟨this.1, b, this.2⟩
  · have b := h.2.2.2.1.2.2.2.2
    rw [if_neg (by decide)] at b
    rcases h.2.2.2.2 with e | ⟨w, e, -⟩
    · have := nul e
      exact ⟨this.1, b, this.2⟩
    · have := one _ 10 rfl rfl (by decide) (by decide) e
      exact ⟨this.1, b, this.2⟩
theorem p0_ch {s : ST} (h : ph0 s) : chM s = 0 := by
  have e : ((c_ms s).filter fun g => (g_as g).isNone) = [] := List.filter_eq_nil_iff.mpr (fun g hg z => h.2.2.2.1 g hg (Option.isNone_iff_eq_none.mp z))
  unfold chM
  rw [e]
  rfl
theorem ch_le {t : Nat} {s : ST} (h : I_0 t s) : chM s ≤ 19 := by
  rcases h.2.2.2 with h | h
  · rw [p0_ch h]; omega
  · have := ic_tk h
    have := chM_eq s
    omega
theorem i0_len {t : Nat} {s : ST} (h : I_0 t s) : (c_ms s).length ≤ 160 + chM s := by
  have a := mq_len h.2.2.1.2
  have b := h.2.2.1.1.1
  have c := ls_all (c_ms s)
  have d : chM s = ((c_ms s).filter fun g => (g_as g).isNone).length := rfl
  omega
theorem i0_asN {t : Nat} {s : ST} (h : I_0 t s) : asN (c_ms s) := by
  intro g hg
  cases e : g_as g with
  | some k =>
    obtain ⟨a, -, c⟩ := (h.2.2.1.2.1 g hg).2 k e
    have := (h.2.2.1.1.2 k a).1
    rw [c]
    exact ⟨⟨fun z => (by cases z), fun z => (by omega)⟩, by omega⟩
  | none =>
    have : 4 < g_so g ∧ g_so g ≤ 10 := by
      rcases h.2.2.2 with x | x
      · exact absurd e (x.2.2.2.1 g hg)
      · by_cases h7 : g_so g = 7
        · omega
        · have := (ic_tk x).2.2 g (List.mem_filter.mpr ⟨hg, isTk_iff.mpr ⟨e, h7⟩⟩)
          exact this.2
    exact ⟨⟨fun _ => this.1, fun _ => rfl⟩, this.2⟩
theorem i0_gok {t : Nat} {s : ST} (h : I_0 t s) : ∀ g, g ∈ c_ms s → GOK s g := fun g hg => ⟨(i0_asN h g hg).2, (h.2.2.1.2.1 g hg).1, fun k e => ((h.2.2.1.2.1 g hg).2 k e).1⟩
theorem lnk_kl {s : ST} (h : hKl (c_hs s) (c_kl s)) (p l d : Nat) : lnk s p l d = c_kl s p l d := by
  unfold lnk
  by_cases e : c_hs s p l = true
  · rw [if_pos e]
  · rw [if_neg e, h.1 p l d (by cases x : c_hs s p l; rfl; exact absurd x e)]
/-! pairs -/
theorem mem_ins {q : Int32 × Int64} {k : Int32} {v : Int64} : ∀ L : PRS, q ∈ ins L k v → q = (k, v) ∨ q ∈ L
  | [], h => Or.inl (List.mem_singleton.mp h)
  | p :: r, h => by
    unfold ins at h
    by_cases h1 : p.1 < k
    · rw [if_pos h1] at h
      rcases List.mem_cons.mp h with e | e
      · exact Or.inr (by rw [e]; exact List.mem_cons_self)
      · rcases mem_ins r e with z | z
        · exact Or.inl z
        · exact Or.inr (List.mem_cons_of_mem _ z)
    · rw [if_neg h1] at h
      by_cases h2 : p.1 = k
      · rw [if_pos h2] at h
        rcases List.mem_cons.mp h with e | e
        · exact Or.inl e
        · exact Or.inr (List.mem_cons_of_mem _ e)
      · rw [if_neg h2] at h
        exact List.mem_cons.mp h
theorem srt_ins (k : Int32) (v : Int64) : ∀ L : PRS, srt L → srt (ins L k v)
  | [], h => List.pairwise_singleton _ _
  | p :: r, h => by
    obtain ⟨a, b⟩ := List.pairwise_cons.mp h
    unfold ins
    by_cases h1 : p.1 < k
    · rw [if_pos h1]
      refine List.pairwise_cons.mpr ⟨fun q hq => ?_, srt_ins k v r b⟩
      rcases mem_ins r hq with z | z
      · rw [z]; exact h1
      · exact a q z
    · rw [if_neg h1]
      by_cases h2 : p.1 = k
      · rw [if_pos h2]
        exact List.pairwise_cons.mpr ⟨fun q hq => by rw [← h2]; exact a q hq, b⟩
      · rw [if_neg h2]
        have lt : k < p.1 := by
          apply Int32.lt_iff_toInt_lt.mpr
          have x1 : ¬ p.1.toInt < k.toInt := fun z => h1 (Int32.lt_iff_toInt_lt.mpr z)
          have x2 : ¬ p.1.toInt = k.toInt := fun z => h2 (Int32.toInt_inj.mp z)
          omega
        refine List.pairwise_cons.mpr ⟨fun q hq => ?_, h⟩
        rcases List.mem_cons.mp hq with z | z
        · rw [z]; exact lt
        · exact Int32.lt_iff_toInt_lt.mpr (by
            have y1 := Int32.lt_iff_toInt_lt.mp lt
            have y2 := Int32.lt_iff_toInt_lt.mp (a q z)
            show k.toInt < _
            omega)
theorem pr_ins {ev : List Int32} {L : PRS} {k : Int32} {v : Int64} (h : prO ev L) (hk : k ∈ ev) : prO ev (ins L k v) :=
  ⟨srt_ins k v L h.1, fun q hq => by
    rcases mem_ins L hq with z | z
    · rw [z]; exact hk
    · exact h.2 q z⟩
theorem pr_inl {ev : List Int32} : ∀ (B L : PRS), prO ev L → (∀ q, q ∈ B → q.1 ∈ ev) → prO ev (inl1 L B)
  | [], L, h, _ => h
  | q :: B, L, h, hB => pr_inl B (ins L q.1 q.2) (pr_ins h (hB q List.mem_cons_self)) (fun x hx => hB x (List.mem_cons_of_mem _ hx))
theorem pr_fil {ev : List Int32} {L : PRS} (p : Int32 × Int64 → Bool) (h : prO ev L) : prO ev (L.filter p) := ⟨List.Pairwise.sublist List.filter_sublist h.1, fun q hq => h.2 q (List.mem_filter.mp hq).1⟩
theorem pr_nil (ev : List Int32) : prO ev [] := ⟨List.Pairwise.nil, fun q hq => by cases hq⟩
theorem pr_len {ev : List Int32} {L : PRS} (h : prO ev L) : L.length ≤ ev.length := by
  have nd : (L.map Prod.fst).Nodup := by
    rw [List.Nodup, List.pairwise_map]
    refine List.Pairwise.imp (fun {a b} x e => ?_) h.1
    have := Int32.lt_iff_toInt_lt.mp x
    rw [e] at this
    omega
  have := ls_len _ ev nd (fun x hx => by
    obtain ⟨q, q1, q2⟩ := List.mem_map.mp hx
    rw [← q2]
    exact h.2 q q1)
  rw [List.length_map] at this
  exact this
theorem mq_er {n na : Nat} {ak : Nat → AK} {L : List MSG} (i : Nat) (h : mq n na ak L) : mq n na ak (L.eraseIdx i) :=
  ⟨fun g hg => h.1 g (List.mem_of_mem_eraseIdx hg), List.Nodup.sublist (List.Sublist.filterMap _ (List.eraseIdx_sublist L i)) h.2⟩
theorem mq_ap {n na : Nat} {ak : Nat → AK} {L X : List MSG} (h : mq n na ak L) (hX : ∀ g, g ∈ X → g_to g < n ∧ g_as g = none) : mq n na ak (L ++ X) := by
  refine ⟨fun g hg => ?_, ?_⟩
  · rcases List.mem_append.mp hg with x | x
    · exact h.1 g x
    · exact ⟨(hX g x).1, fun k e => by rw [(hX g x).2] at e; cases e⟩
  · have e : X.filterMap g_as = [] := List.filterMap_eq_nil_iff.mpr (fun g hg => (hX g hg).2)
    rw [List.filterMap_append, e, List.append_nil]
    exact h.2
theorem akO_t {t t' na : Nat} {ak : Nat → AK} {ev : List Int32} (h : akO t na ak ev) (ht : t ≤ t') : akO t' na ak ev :=
  ⟨h.1, fun k hk => by
    obtain ⟨a, b, c, d⟩ := h.2 k hk
    exact ⟨a, by omega, by omega, d⟩⟩
